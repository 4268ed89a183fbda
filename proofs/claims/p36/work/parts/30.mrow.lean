set_option maxHeartbeats 4000000 in
set_option maxRecDepth 100000 in
theorem c_X10_size (X : Cx) (M : Mm) (hi : IM M) (a : Int) (ha : inI a) : Con X 12 yX10_size cX10_size 3 (some .int) [vr X 97, vi a] M (Qi (fun r M1 => IM M1 ∧ Fr (fun c => 97 ≤ c ∧ c ≤ 116) M M1 ∧ M1 99 0 = M 99 0 ∧ M1 99 2 = M 99 2 ∧ M1 99 3 = M 99 3 ∧ M1 100 0 = M 100 0 ∧ M1 100 1 = M 100 1 ∧ M1 100 2 = M 100 2 ∧ M1 100 3 = M 100 3 ∧ M1 100 49 = M 100 49 ∧ M1 100 50 = M 100 50 ∧ M1 100 51 = M 100 51 ∧ M1 100 52 = M 100 52 ∧ M1 103 0 = M 103 0 ∧ M1 103 1 = M 103 1 ∧ M1 97 12 = M 97 12 ∧ (((a < 1 ∨ 60 < a) → r = -1 ∧ M1 99 1 = M 99 1) ∧ (1 ≤ a → a ≤ 60 → 3 ≤ M 99 1 → r = -5 ∧ M1 99 1 = M 99 1) ∧ (1 ≤ a → a ≤ 60 → M 99 1 < 3 → r = M 99 1 ∧ M1 99 1 = M 99 1 + 1)))) := by
  refine Con.ofG rfl (Nat.le_of_ble_eq_true rfl) ?_
  show G X 12 RX10 cX10_size 3 (some .int) (Qi (fun r M1 => IM M1 ∧ Fr (fun c => 97 ≤ c ∧ c ≤ 116) M M1 ∧ M1 99 0 = M 99 0 ∧ M1 99 2 = M 99 2 ∧ M1 99 3 = M 99 3 ∧ M1 100 0 = M 100 0 ∧ M1 100 1 = M 100 1 ∧ M1 100 2 = M 100 2 ∧ M1 100 3 = M 100 3 ∧ M1 100 49 = M 100 49 ∧ M1 100 50 = M 100 50 ∧ M1 100 51 = M 100 51 ∧ M1 100 52 = M 100 52 ∧ M1 103 0 = M 103 0 ∧ M1 103 1 = M 103 1 ∧ M1 97 12 = M 97 12 ∧ (((a < 1 ∨ 60 < a) → r = -1 ∧ M1 99 1 = M 99 1) ∧ (1 ≤ a → a ≤ 60 → 3 ≤ M 99 1 → r = -5 ∧ M1 99 1 = M 99 1) ∧ (1 ≤ a → a ≤ 60 → M 99 1 < 3 → r = M 99 1 ∧ M1 99 1 = M 99 1 + 1)))) 0 [(0, vr X 97), (1, vi a)] [] M
  have p0 := hi.1.1
  have p1 := hi.1.2.1
  have p2 := hi.1.2.2.1
  have p3 := hi.1.2.2.2.1
  have p12 := hi.2.2.2.1
  refine g_aload_n (pc' := 1) 0 dX10_size_0 rfl rfl ?_
  refine g_iconst (pc' := 2) dX10_size_1 rfl ?_
  refine g_putI (pc' := 5) dX10_size_2 rfl p_X10_77 rfl rfl (by decide) (fun M1 hM1 => ?_)
  have iM1 : IM M1 := IM.wr hi hM1 (by unfold okv; first | decide | omega)
  have fM1 : Fr (fun c => 97 ≤ c ∧ c ≤ 116) M M1 := Fr.wr Fr.rf hM1 (by first | decide | omega | (dsimp only; omega))
  have q99_0_M1 : (M1 99 0 = M 99 0) := (show M1 99 0 = M 99 0 by rw [hM1]; exact mu_ne _ _ (by first | decide | omega))
  have q99_2_M1 : (M1 99 2 = M 99 2) := (show M1 99 2 = M 99 2 by rw [hM1]; exact mu_ne _ _ (by first | decide | omega))
  have q99_3_M1 : (M1 99 3 = M 99 3) := (show M1 99 3 = M 99 3 by rw [hM1]; exact mu_ne _ _ (by first | decide | omega))
  have q100_0_M1 : id (M1 100 0 = M 100 0) := (show M1 100 0 = M 100 0 by rw [hM1]; exact mu_ne _ _ (by first | decide | omega))
  have q100_1_M1 : id (M1 100 1 = M 100 1) := (show M1 100 1 = M 100 1 by rw [hM1]; exact mu_ne _ _ (by first | decide | omega))
  have q100_2_M1 : id (M1 100 2 = M 100 2) := (show M1 100 2 = M 100 2 by rw [hM1]; exact mu_ne _ _ (by first | decide | omega))
  have q100_3_M1 : id (M1 100 3 = M 100 3) := (show M1 100 3 = M 100 3 by rw [hM1]; exact mu_ne _ _ (by first | decide | omega))
  have q100_49_M1 : id (M1 100 49 = M 100 49) := (show M1 100 49 = M 100 49 by rw [hM1]; exact mu_ne _ _ (by first | decide | omega))
  have q100_50_M1 : id (M1 100 50 = M 100 50) := (show M1 100 50 = M 100 50 by rw [hM1]; exact mu_ne _ _ (by first | decide | omega))
  have q100_51_M1 : id (M1 100 51 = M 100 51) := (show M1 100 51 = M 100 51 by rw [hM1]; exact mu_ne _ _ (by first | decide | omega))
  have q100_52_M1 : id (M1 100 52 = M 100 52) := (show M1 100 52 = M 100 52 by rw [hM1]; exact mu_ne _ _ (by first | decide | omega))
  have q103_0_M1 : id (M1 103 0 = M 103 0) := (show M1 103 0 = M 103 0 by rw [hM1]; exact mu_ne _ _ (by first | decide | omega))
  have q103_1_M1 : id (M1 103 1 = M 103 1) := (show M1 103 1 = M 103 1 by rw [hM1]; exact mu_ne _ _ (by first | decide | omega))
  have q97_12_M1 : (M1 97 12 = M 97 12) := (show M1 97 12 = M 97 12 by rw [hM1]; exact mu_ne _ _ (by first | decide | omega))
  have q99_1_M1 : (M1 99 1 = M 99 1) := (show M1 99 1 = M 99 1 by rw [hM1]; exact mu_ne _ _ (by first | decide | omega))
  have wM1_99_1 : M1 99 1 = M 99 1 := by rw [hM1]; exact mu_ne _ _ (by first | decide | omega)
  have xM1_97_0 : M1 97 0 = 0 := by rw [hM1]; exact mu_at _ _ _ _
  refine g_iload_n (pc' := 6) 1 dX10_size_5 rfl rfl ?_
  refine g_callSip (pc' := 9) (As := [vi a]) (S := []) dX10_size_6 rfl m_X10_95 w_X10_isAmount (c_X10_isAmount X M1 a ha) rfl (by decide) (by decide) rfl (Nat.le_of_ble_eq_true rfl) (fun z3 q2 => ?_)
  refine g_if_ne (pc' := 12) (tgt := 18) ⟨by omega, by omega⟩ dX10_size_9 rfl rfl (fun c4 => ?_) (fun c4 => ?_)
  · replace q2 := q2.resolve_right (fun h => c4 h.1)
    refine g_aload_n (pc' := 19) 0 dX10_size_18 rfl rfl ?_
    refine g_getR (pc' := 22) dX10_size_19 rfl f_X10_13 rfl rfl ?_
    refine g_iconst (pc' := 23) dX10_size_22 rfl ?_
    refine g_iald (pc' := 24) dX10_size_23 rfl rfl (by decide) (by decide) (fun v5 ev5 rv5 => ?_)
    have ev5 : v5 = M1 99 1 := ev5
    have bv5 : 0 ≤ v5 ∧ v5 ≤ 3 := by rw [ev5]; exact iM1.1.2.1
    have av5 : v5 = M 99 1 := ev5.trans q99_1_M1
    refine g_istore_n (pc' := 25) (i := 2) (L' := [(2, vi v5), (0, vr X 97), (1, vi a)]) dX10_size_24 rfl rfl (by decide) rfl ?_
    refine g_iload_n (pc' := 26) 0 dX10_size_25 rfl rfl ?_
    refine g_iconst (pc' := 27) dX10_size_26 rfl ?_
    refine g_ic_ne (pc' := 30) (tgt := 37) rv5 (by decide) dX10_size_27 rfl rfl (fun c6 => ?_) (fun c6 => ?_)
    · refine g_aload_n (pc' := 38) 1 dX10_size_37 rfl rfl ?_
      refine g_getR (pc' := 41) dX10_size_38 rfl f_X10_13 rfl rfl ?_
      refine g_bipush (pc' := 43) (v := 10) dX10_size_41 rfl (by decide) ?_
      refine g_iload_n (pc' := 44) 0 dX10_size_43 rfl rfl ?_
      refine g_iadd (pc' := 45) dX10_size_44 rfl ?_
      refine g_iload_n (pc' := 46) 2 dX10_size_45 rfl rfl ?_
      refine g_iast (pc' := 47) dX10_size_46 rfl rfl (by omega) (by omega) ha (fun M7 hM7 => ?_)
      have iM7 : IM M7 := IM.wrow iM1 hM7 (by unfold okrow; omega)
      have fM7 : Fr (fun c => 97 ≤ c ∧ c ≤ 116) M M7 := Fr.wr fM1 hM7 (by first | decide | omega | (dsimp only; omega))
      have q99_0_M7 : (M7 99 0 = M 99 0) := (show M7 99 0 = M1 99 0 by rw [hM7]; exact mu_ne _ _ (by first | decide | omega)).trans q99_0_M1
      have q99_2_M7 : (M7 99 2 = M 99 2) := (show M7 99 2 = M1 99 2 by rw [hM7]; exact mu_ne _ _ (by first | decide | omega)).trans q99_2_M1
      have q99_3_M7 : (M7 99 3 = M 99 3) := (show M7 99 3 = M1 99 3 by rw [hM7]; exact mu_ne _ _ (by first | decide | omega)).trans q99_3_M1
      have q100_0_M7 : id (M7 100 0 = M 100 0) := (show M7 100 0 = M1 100 0 by rw [hM7]; exact mu_ne _ _ (by first | decide | omega)).trans q100_0_M1
      have q100_1_M7 : id (M7 100 1 = M 100 1) := (show M7 100 1 = M1 100 1 by rw [hM7]; exact mu_ne _ _ (by first | decide | omega)).trans q100_1_M1
      have q100_2_M7 : id (M7 100 2 = M 100 2) := (show M7 100 2 = M1 100 2 by rw [hM7]; exact mu_ne _ _ (by first | decide | omega)).trans q100_2_M1
      have q100_3_M7 : id (M7 100 3 = M 100 3) := (show M7 100 3 = M1 100 3 by rw [hM7]; exact mu_ne _ _ (by first | decide | omega)).trans q100_3_M1
      have q100_49_M7 : id (M7 100 49 = M 100 49) := (show M7 100 49 = M1 100 49 by rw [hM7]; exact mu_ne _ _ (by first | decide | omega)).trans q100_49_M1
      have q100_50_M7 : id (M7 100 50 = M 100 50) := (show M7 100 50 = M1 100 50 by rw [hM7]; exact mu_ne _ _ (by first | decide | omega)).trans q100_50_M1
      have q100_51_M7 : id (M7 100 51 = M 100 51) := (show M7 100 51 = M1 100 51 by rw [hM7]; exact mu_ne _ _ (by first | decide | omega)).trans q100_51_M1
      have q100_52_M7 : id (M7 100 52 = M 100 52) := (show M7 100 52 = M1 100 52 by rw [hM7]; exact mu_ne _ _ (by first | decide | omega)).trans q100_52_M1
      have q103_0_M7 : id (M7 103 0 = M 103 0) := (show M7 103 0 = M1 103 0 by rw [hM7]; exact mu_ne _ _ (by first | decide | omega)).trans q103_0_M1
      have q103_1_M7 : id (M7 103 1 = M 103 1) := (show M7 103 1 = M1 103 1 by rw [hM7]; exact mu_ne _ _ (by first | decide | omega)).trans q103_1_M1
      have q97_12_M7 : (M7 97 12 = M 97 12) := (show M7 97 12 = M1 97 12 by rw [hM7]; exact mu_ne _ _ (by first | decide | omega)).trans q97_12_M1
      have q99_1_M7 : (M7 99 1 = M 99 1) := (show M7 99 1 = M1 99 1 by rw [hM7]; exact mu_ne _ _ (by first | decide | omega)).trans q99_1_M1
      have wM7_99_1 : M7 99 1 = M1 99 1 := by rw [hM7]; exact mu_ne _ _ (by first | decide | omega)
      have xM7_97_0 : M7 97 0 = 0 := (show M7 97 0 = M1 97 0 by rw [hM7]; exact mu_ne _ _ (by first | decide | omega)).trans xM1_97_0
      refine g_aload_n (pc' := 48) 1 dX10_size_47 rfl rfl ?_
      refine g_getR (pc' := 51) dX10_size_48 rfl f_X10_13 rfl rfl ?_
      refine g_iconst (pc' := 52) dX10_size_51 rfl ?_
      refine g_dup2_11 (pc' := 53) dX10_size_52 rfl rfl rfl ?_
      refine g_iald (pc' := 54) dX10_size_53 rfl rfl (by decide) (by decide) (fun v8 ev8 rv8 => ?_)
      have ev8 : v8 = M7 99 1 := ev8
      have bv8 : 0 ≤ v8 ∧ v8 ≤ 3 := by rw [ev8]; exact iM7.1.2.1
      have av8 : v8 = M 99 1 := ev8.trans q99_1_M7
      obtain rfl : v5 = v8 := av5.trans av8.symm
      refine g_iconst (pc' := 55) dX10_size_54 rfl ?_
      refine g_iadd (pc' := 56) dX10_size_55 rfl ?_
      refine g_iast (pc' := 57) dX10_size_56 rfl rfl (by decide) (by decide) ⟨by omega, by omega⟩ (fun M9 hM9 => ?_)
      have hM9 : M9 = mu M7 99 1 (v5 + 1) := hM9
      have fM9 : Fr (fun c => 97 ≤ c ∧ c ≤ 116) M M9 := Fr.wr fM7 hM9 (by first | decide | omega | (dsimp only; omega))
      have q99_0_M9 : (M9 99 0 = M 99 0) := (show M9 99 0 = M7 99 0 by rw [hM9]; exact mu_ne _ _ (by first | decide | omega)).trans q99_0_M7
      have q99_2_M9 : (M9 99 2 = M 99 2) := (show M9 99 2 = M7 99 2 by rw [hM9]; exact mu_ne _ _ (by first | decide | omega)).trans q99_2_M7
      have q99_3_M9 : (M9 99 3 = M 99 3) := (show M9 99 3 = M7 99 3 by rw [hM9]; exact mu_ne _ _ (by first | decide | omega)).trans q99_3_M7
      have q100_0_M9 : id (M9 100 0 = M 100 0) := (show M9 100 0 = M7 100 0 by rw [hM9]; exact mu_ne _ _ (by first | decide | omega)).trans q100_0_M7
      have q100_1_M9 : id (M9 100 1 = M 100 1) := (show M9 100 1 = M7 100 1 by rw [hM9]; exact mu_ne _ _ (by first | decide | omega)).trans q100_1_M7
      have q100_2_M9 : id (M9 100 2 = M 100 2) := (show M9 100 2 = M7 100 2 by rw [hM9]; exact mu_ne _ _ (by first | decide | omega)).trans q100_2_M7
      have q100_3_M9 : id (M9 100 3 = M 100 3) := (show M9 100 3 = M7 100 3 by rw [hM9]; exact mu_ne _ _ (by first | decide | omega)).trans q100_3_M7
      have q100_49_M9 : id (M9 100 49 = M 100 49) := (show M9 100 49 = M7 100 49 by rw [hM9]; exact mu_ne _ _ (by first | decide | omega)).trans q100_49_M7
      have q100_50_M9 : id (M9 100 50 = M 100 50) := (show M9 100 50 = M7 100 50 by rw [hM9]; exact mu_ne _ _ (by first | decide | omega)).trans q100_50_M7
      have q100_51_M9 : id (M9 100 51 = M 100 51) := (show M9 100 51 = M7 100 51 by rw [hM9]; exact mu_ne _ _ (by first | decide | omega)).trans q100_51_M7
      have q100_52_M9 : id (M9 100 52 = M 100 52) := (show M9 100 52 = M7 100 52 by rw [hM9]; exact mu_ne _ _ (by first | decide | omega)).trans q100_52_M7
      have q103_0_M9 : id (M9 103 0 = M 103 0) := (show M9 103 0 = M7 103 0 by rw [hM9]; exact mu_ne _ _ (by first | decide | omega)).trans q103_0_M7
      have q103_1_M9 : id (M9 103 1 = M 103 1) := (show M9 103 1 = M7 103 1 by rw [hM9]; exact mu_ne _ _ (by first | decide | omega)).trans q103_1_M7
      have q97_12_M9 : (M9 97 12 = M 97 12) := (show M9 97 12 = M7 97 12 by rw [hM9]; exact mu_ne _ _ (by first | decide | omega)).trans q97_12_M7
      have xM9_97_0 : M9 97 0 = 0 := (show M9 97 0 = M7 97 0 by rw [hM9]; exact mu_ne _ _ (by first | decide | omega)).trans xM7_97_0
      have xM9_99_1 : M9 99 1 = v5 + 1 := by rw [hM9]; exact mu_at _ _ _ _
      have sM9 : ∀ i : Nat, (i : Int) < v5 + 1 → 1 ≤ M7 99 (10 + i) ∧ M7 99 (10 + i) ≤ 60 := by
        intro i hi2
        by_cases z : i = v5.toNat
        · rw [z, hM7, show 10 + v5.toNat = (10 + v5).toNat by omega, mu_at]; omega
        · exact iM7.1.2.2.2.2.2.1 i (by omega)
      have iM9 : IM M9 := IM.wrow1 iM7 hM9 (by omega) sM9
      refine g_aload_n (pc' := 58) 1 dX10_size_57 rfl rfl ?_
      refine g_iload_n (pc' := 59) 0 dX10_size_58 rfl rfl ?_
      refine g_callVi (pc' := 62) (As := [vi v5]) (b := 97) (S := []) dX10_size_59 rfl m_X10_87 w_X10_tell (c_X10_tell X M9 iM9 v5 rv5 (by omega)) rfl ⟨_, _, _, rfl, rfl, rfl⟩ (by decide) (by decide) rfl (Nat.le_of_ble_eq_true rfl) (fun z11 M12 q10 => ?_)
      obtain ⟨iM12, fM120, eM12_99_0, eM12_99_1, eM12_99_2, eM12_99_3, eM12_100_0, eM12_100_1, eM12_100_2, eM12_100_3, eM12_100_49, eM12_100_50, eM12_100_51, eM12_100_52, eM12_103_0, eM12_103_1, eM12_97_12, pM12⟩ := q10
      have fM12 : Fr (fun c => 97 ≤ c ∧ c ≤ 116) M M12 := Fr.tr fM9 fM120 fi_23
      have q99_0_M12 : (M12 99 0 = M 99 0) := eM12_99_0.trans q99_0_M9
      have q99_2_M12 : (M12 99 2 = M 99 2) := eM12_99_2.trans q99_2_M9
      have q99_3_M12 : (M12 99 3 = M 99 3) := eM12_99_3.trans q99_3_M9
      have q100_0_M12 : id (M12 100 0 = M 100 0) := eM12_100_0.trans q100_0_M9
      have q100_1_M12 : id (M12 100 1 = M 100 1) := eM12_100_1.trans q100_1_M9
      have q100_2_M12 : id (M12 100 2 = M 100 2) := eM12_100_2.trans q100_2_M9
      have q100_3_M12 : id (M12 100 3 = M 100 3) := eM12_100_3.trans q100_3_M9
      have q100_49_M12 : id (M12 100 49 = M 100 49) := eM12_100_49.trans q100_49_M9
      have q100_50_M12 : id (M12 100 50 = M 100 50) := eM12_100_50.trans q100_50_M9
      have q100_51_M12 : id (M12 100 51 = M 100 51) := eM12_100_51.trans q100_51_M9
      have q100_52_M12 : id (M12 100 52 = M 100 52) := eM12_100_52.trans q100_52_M9
      have q103_0_M12 : id (M12 103 0 = M 103 0) := eM12_103_0.trans q103_0_M9
      have q103_1_M12 : id (M12 103 1 = M 103 1) := eM12_103_1.trans q103_1_M9
      have q97_12_M12 : (M12 97 12 = M 97 12) := eM12_97_12.trans q97_12_M9
      have wM12_99_1 : M12 99 1 = M9 99 1 := eM12_99_1
      have xM12_99_1 : M12 99 1 = v5 + 1 := eM12_99_1.trans xM9_99_1
      clear eM12_100_0 eM12_100_1 eM12_100_2 eM12_100_3 eM12_100_49 eM12_100_50 eM12_100_51 eM12_100_52 eM12_103_0 eM12_103_1
      refine g_ireturn dX10_size_62 ?_
      exact ⟨iM12, fM12, q99_0_M12, q99_2_M12, q99_3_M12, q100_0_M12, q100_1_M12, q100_2_M12, q100_3_M12, q100_49_M12, q100_50_M12, q100_51_M12, q100_52_M12, q103_0_M12, q103_1_M12, q97_12_M12, by omega⟩
    · refine g_aload_n (pc' := 31) 1 dX10_size_30 rfl rfl ?_
      refine g_bipush (pc' := 33) (v := (-5)) dX10_size_31 rfl (by decide) ?_
      refine g_callVi (pc' := 36) (As := [vi (-5)]) (b := 97) (S := []) dX10_size_33 rfl m_X10_87 w_X10_tell (c_X10_tell X M1 iM1 (-5) (by decide) (by omega)) rfl ⟨_, _, _, rfl, rfl, rfl⟩ (by decide) (by decide) rfl (Nat.le_of_ble_eq_true rfl) (fun z14 M15 q13 => ?_)
      obtain ⟨iM15, fM150, eM15_99_0, eM15_99_1, eM15_99_2, eM15_99_3, eM15_100_0, eM15_100_1, eM15_100_2, eM15_100_3, eM15_100_49, eM15_100_50, eM15_100_51, eM15_100_52, eM15_103_0, eM15_103_1, eM15_97_12, pM15⟩ := q13
      have fM15 : Fr (fun c => 97 ≤ c ∧ c ≤ 116) M M15 := Fr.tr fM1 fM150 fi_23
      have q99_0_M15 : (M15 99 0 = M 99 0) := eM15_99_0.trans q99_0_M1
      have q99_2_M15 : (M15 99 2 = M 99 2) := eM15_99_2.trans q99_2_M1
      have q99_3_M15 : (M15 99 3 = M 99 3) := eM15_99_3.trans q99_3_M1
      have q100_0_M15 : id (M15 100 0 = M 100 0) := eM15_100_0.trans q100_0_M1
      have q100_1_M15 : id (M15 100 1 = M 100 1) := eM15_100_1.trans q100_1_M1
      have q100_2_M15 : id (M15 100 2 = M 100 2) := eM15_100_2.trans q100_2_M1
      have q100_3_M15 : id (M15 100 3 = M 100 3) := eM15_100_3.trans q100_3_M1
      have q100_49_M15 : id (M15 100 49 = M 100 49) := eM15_100_49.trans q100_49_M1
      have q100_50_M15 : id (M15 100 50 = M 100 50) := eM15_100_50.trans q100_50_M1
      have q100_51_M15 : id (M15 100 51 = M 100 51) := eM15_100_51.trans q100_51_M1
      have q100_52_M15 : id (M15 100 52 = M 100 52) := eM15_100_52.trans q100_52_M1
      have q103_0_M15 : id (M15 103 0 = M 103 0) := eM15_103_0.trans q103_0_M1
      have q103_1_M15 : id (M15 103 1 = M 103 1) := eM15_103_1.trans q103_1_M1
      have q97_12_M15 : (M15 97 12 = M 97 12) := eM15_97_12.trans q97_12_M1
      have q99_1_M15 : (M15 99 1 = M 99 1) := eM15_99_1.trans q99_1_M1
      have wM15_99_1 : M15 99 1 = M1 99 1 := eM15_99_1
      clear eM15_100_0 eM15_100_1 eM15_100_2 eM15_100_3 eM15_100_49 eM15_100_50 eM15_100_51 eM15_100_52 eM15_103_0 eM15_103_1
      refine g_ireturn dX10_size_36 ?_
      exact ⟨iM15, fM15, q99_0_M15, q99_2_M15, q99_3_M15, q100_0_M15, q100_1_M15, q100_2_M15, q100_3_M15, q100_49_M15, q100_50_M15, q100_51_M15, q100_52_M15, q103_0_M15, q103_1_M15, q97_12_M15, by omega⟩
  · replace q2 := q2.resolve_left (fun h => absurd (c4.symm.trans h.1) (by decide))
    refine g_aload_n (pc' := 13) 0 dX10_size_12 rfl rfl ?_
    refine g_iconst (pc' := 14) dX10_size_13 rfl ?_
    refine g_callVi (pc' := 17) (As := [vi (-1)]) (b := 97) (S := []) dX10_size_14 rfl m_X10_87 w_X10_tell (c_X10_tell X M1 iM1 (-1) (by decide) (by omega)) rfl ⟨_, _, _, rfl, rfl, rfl⟩ (by decide) (by decide) rfl (Nat.le_of_ble_eq_true rfl) (fun z17 M18 q16 => ?_)
    obtain ⟨iM18, fM180, eM18_99_0, eM18_99_1, eM18_99_2, eM18_99_3, eM18_100_0, eM18_100_1, eM18_100_2, eM18_100_3, eM18_100_49, eM18_100_50, eM18_100_51, eM18_100_52, eM18_103_0, eM18_103_1, eM18_97_12, pM18⟩ := q16
    have fM18 : Fr (fun c => 97 ≤ c ∧ c ≤ 116) M M18 := Fr.tr fM1 fM180 fi_23
    have q99_0_M18 : (M18 99 0 = M 99 0) := eM18_99_0.trans q99_0_M1
    have q99_2_M18 : (M18 99 2 = M 99 2) := eM18_99_2.trans q99_2_M1
    have q99_3_M18 : (M18 99 3 = M 99 3) := eM18_99_3.trans q99_3_M1
    have q100_0_M18 : id (M18 100 0 = M 100 0) := eM18_100_0.trans q100_0_M1
    have q100_1_M18 : id (M18 100 1 = M 100 1) := eM18_100_1.trans q100_1_M1
    have q100_2_M18 : id (M18 100 2 = M 100 2) := eM18_100_2.trans q100_2_M1
    have q100_3_M18 : id (M18 100 3 = M 100 3) := eM18_100_3.trans q100_3_M1
    have q100_49_M18 : id (M18 100 49 = M 100 49) := eM18_100_49.trans q100_49_M1
    have q100_50_M18 : id (M18 100 50 = M 100 50) := eM18_100_50.trans q100_50_M1
    have q100_51_M18 : id (M18 100 51 = M 100 51) := eM18_100_51.trans q100_51_M1
    have q100_52_M18 : id (M18 100 52 = M 100 52) := eM18_100_52.trans q100_52_M1
    have q103_0_M18 : id (M18 103 0 = M 103 0) := eM18_103_0.trans q103_0_M1
    have q103_1_M18 : id (M18 103 1 = M 103 1) := eM18_103_1.trans q103_1_M1
    have q97_12_M18 : (M18 97 12 = M 97 12) := eM18_97_12.trans q97_12_M1
    have q99_1_M18 : (M18 99 1 = M 99 1) := eM18_99_1.trans q99_1_M1
    have wM18_99_1 : M18 99 1 = M1 99 1 := eM18_99_1
    clear eM18_100_0 eM18_100_1 eM18_100_2 eM18_100_3 eM18_100_49 eM18_100_50 eM18_100_51 eM18_100_52 eM18_103_0 eM18_103_1
    refine g_ireturn dX10_size_17 ?_
    exact ⟨iM18, fM18, q99_0_M18, q99_2_M18, q99_3_M18, q100_0_M18, q100_1_M18, q100_2_M18, q100_3_M18, q100_49_M18, q100_50_M18, q100_51_M18, q100_52_M18, q103_0_M18, q103_1_M18, q97_12_M18, by omega⟩
set_option maxHeartbeats 4000000 in
set_option maxRecDepth 100000 in
theorem c_X10_wash (X : Cx) (M : Mm) (hi : IM M) : Con X 12 yX10_wash cX10_wash 2 (some .int) [vr X 97] M (Qi (fun r M1 => IM M1 ∧ Fr (fun c => 97 ≤ c ∧ c ≤ 116) M M1 ∧ M1 99 0 = M 99 0 ∧ M1 99 3 = M 99 3 ∧ M1 100 0 = M 100 0 ∧ M1 100 1 = M 100 1 ∧ M1 100 2 = M 100 2 ∧ M1 100 3 = M 100 3 ∧ M1 100 49 = M 100 49 ∧ M1 100 50 = M 100 50 ∧ M1 100 51 = M 100 51 ∧ M1 100 52 = M 100 52 ∧ M1 103 0 = M 103 0 ∧ M1 103 1 = M 103 1 ∧ M1 97 12 = M 97 12 ∧ (r = M 99 1 + M 99 2 ∧ M1 99 1 = 0 ∧ M1 99 2 = 0))) := by
  refine Con.ofG rfl (Nat.le_of_ble_eq_true rfl) ?_
  show G X 12 RX10 cX10_wash 2 (some .int) (Qi (fun r M1 => IM M1 ∧ Fr (fun c => 97 ≤ c ∧ c ≤ 116) M M1 ∧ M1 99 0 = M 99 0 ∧ M1 99 3 = M 99 3 ∧ M1 100 0 = M 100 0 ∧ M1 100 1 = M 100 1 ∧ M1 100 2 = M 100 2 ∧ M1 100 3 = M 100 3 ∧ M1 100 49 = M 100 49 ∧ M1 100 50 = M 100 50 ∧ M1 100 51 = M 100 51 ∧ M1 100 52 = M 100 52 ∧ M1 103 0 = M 103 0 ∧ M1 103 1 = M 103 1 ∧ M1 97 12 = M 97 12 ∧ (r = M 99 1 + M 99 2 ∧ M1 99 1 = 0 ∧ M1 99 2 = 0))) 0 [(0, vr X 97)] [] M
  have p0 := hi.1.1
  have p1 := hi.1.2.1
  have p2 := hi.1.2.2.1
  have p3 := hi.1.2.2.2.1
  have p12 := hi.2.2.2.1
  refine g_aload_n (pc' := 1) 0 dX10_wash_0 rfl rfl ?_
  refine g_iconst (pc' := 2) dX10_wash_1 rfl ?_
  refine g_putI (pc' := 5) dX10_wash_2 rfl p_X10_77 rfl rfl (by decide) (fun M1 hM1 => ?_)
  have iM1 : IM M1 := IM.wr hi hM1 (by unfold okv; first | decide | omega)
  have fM1 : Fr (fun c => 97 ≤ c ∧ c ≤ 116) M M1 := Fr.wr Fr.rf hM1 (by first | decide | omega | (dsimp only; omega))
  have q99_0_M1 : (M1 99 0 = M 99 0) := (show M1 99 0 = M 99 0 by rw [hM1]; exact mu_ne _ _ (by first | decide | omega))
  have q99_3_M1 : (M1 99 3 = M 99 3) := (show M1 99 3 = M 99 3 by rw [hM1]; exact mu_ne _ _ (by first | decide | omega))
  have q100_0_M1 : id (M1 100 0 = M 100 0) := (show M1 100 0 = M 100 0 by rw [hM1]; exact mu_ne _ _ (by first | decide | omega))
  have q100_1_M1 : id (M1 100 1 = M 100 1) := (show M1 100 1 = M 100 1 by rw [hM1]; exact mu_ne _ _ (by first | decide | omega))
  have q100_2_M1 : id (M1 100 2 = M 100 2) := (show M1 100 2 = M 100 2 by rw [hM1]; exact mu_ne _ _ (by first | decide | omega))
  have q100_3_M1 : id (M1 100 3 = M 100 3) := (show M1 100 3 = M 100 3 by rw [hM1]; exact mu_ne _ _ (by first | decide | omega))
  have q100_49_M1 : id (M1 100 49 = M 100 49) := (show M1 100 49 = M 100 49 by rw [hM1]; exact mu_ne _ _ (by first | decide | omega))
  have q100_50_M1 : id (M1 100 50 = M 100 50) := (show M1 100 50 = M 100 50 by rw [hM1]; exact mu_ne _ _ (by first | decide | omega))
  have q100_51_M1 : id (M1 100 51 = M 100 51) := (show M1 100 51 = M 100 51 by rw [hM1]; exact mu_ne _ _ (by first | decide | omega))
  have q100_52_M1 : id (M1 100 52 = M 100 52) := (show M1 100 52 = M 100 52 by rw [hM1]; exact mu_ne _ _ (by first | decide | omega))
  have q103_0_M1 : id (M1 103 0 = M 103 0) := (show M1 103 0 = M 103 0 by rw [hM1]; exact mu_ne _ _ (by first | decide | omega))
  have q103_1_M1 : id (M1 103 1 = M 103 1) := (show M1 103 1 = M 103 1 by rw [hM1]; exact mu_ne _ _ (by first | decide | omega))
  have q97_12_M1 : (M1 97 12 = M 97 12) := (show M1 97 12 = M 97 12 by rw [hM1]; exact mu_ne _ _ (by first | decide | omega))
  have q99_1_M1 : (M1 99 1 = M 99 1) := (show M1 99 1 = M 99 1 by rw [hM1]; exact mu_ne _ _ (by first | decide | omega))
  have q99_2_M1 : (M1 99 2 = M 99 2) := (show M1 99 2 = M 99 2 by rw [hM1]; exact mu_ne _ _ (by first | decide | omega))
  have wM1_99_1 : M1 99 1 = M 99 1 := by rw [hM1]; exact mu_ne _ _ (by first | decide | omega)
  have wM1_99_2 : M1 99 2 = M 99 2 := by rw [hM1]; exact mu_ne _ _ (by first | decide | omega)
  have xM1_97_0 : M1 97 0 = 0 := by rw [hM1]; exact mu_at _ _ _ _
  refine g_aload_n (pc' := 6) 0 dX10_wash_5 rfl rfl ?_
  refine g_getR (pc' := 9) dX10_wash_6 rfl f_X10_13 rfl rfl ?_
  refine g_iconst (pc' := 10) dX10_wash_9 rfl ?_
  refine g_iald (pc' := 11) dX10_wash_10 rfl rfl (by decide) (by decide) (fun v2 ev2 rv2 => ?_)
  have ev2 : v2 = M1 99 1 := ev2
  have bv2 : 0 ≤ v2 ∧ v2 ≤ 3 := by rw [ev2]; exact iM1.1.2.1
  have av2 : v2 = M 99 1 := ev2.trans q99_1_M1
  refine g_aload_n (pc' := 12) 0 dX10_wash_11 rfl rfl ?_
  refine g_getR (pc' := 15) dX10_wash_12 rfl f_X10_13 rfl rfl ?_
  refine g_iconst (pc' := 16) dX10_wash_15 rfl ?_
  refine g_iald (pc' := 17) dX10_wash_16 rfl rfl (by decide) (by decide) (fun v3 ev3 rv3 => ?_)
  have ev3 : v3 = M1 99 2 := ev3
  have bv3 : 0 ≤ v3 ∧ v3 ≤ 6 := by rw [ev3]; exact iM1.1.2.2.1
  have av3 : v3 = M 99 2 := ev3.trans q99_2_M1
  refine g_iadd (pc' := 18) dX10_wash_17 rfl ?_
  refine g_istore_n (pc' := 19) (i := 1) (L' := [(1, vi (v2 + v3)), (0, vr X 97)]) dX10_wash_18 rfl rfl (by decide) rfl ?_
  refine g_aload_n (pc' := 20) 1 dX10_wash_19 rfl rfl ?_
  refine g_getR (pc' := 23) dX10_wash_20 rfl f_X10_13 rfl rfl ?_
  refine g_iconst (pc' := 24) dX10_wash_23 rfl ?_
  refine g_iconst (pc' := 25) dX10_wash_24 rfl ?_
  refine g_iast (pc' := 26) dX10_wash_25 rfl rfl (by decide) (by decide) (by decide) (fun M4 hM4 => ?_)
  have hM4 : M4 = mu M1 99 1 0 := hM4
  have fM4 : Fr (fun c => 97 ≤ c ∧ c ≤ 116) M M4 := Fr.wr fM1 hM4 (by first | decide | omega | (dsimp only; omega))
  have q99_0_M4 : (M4 99 0 = M 99 0) := (show M4 99 0 = M1 99 0 by rw [hM4]; exact mu_ne _ _ (by first | decide | omega)).trans q99_0_M1
  have q99_3_M4 : (M4 99 3 = M 99 3) := (show M4 99 3 = M1 99 3 by rw [hM4]; exact mu_ne _ _ (by first | decide | omega)).trans q99_3_M1
  have q100_0_M4 : id (M4 100 0 = M 100 0) := (show M4 100 0 = M1 100 0 by rw [hM4]; exact mu_ne _ _ (by first | decide | omega)).trans q100_0_M1
  have q100_1_M4 : id (M4 100 1 = M 100 1) := (show M4 100 1 = M1 100 1 by rw [hM4]; exact mu_ne _ _ (by first | decide | omega)).trans q100_1_M1
  have q100_2_M4 : id (M4 100 2 = M 100 2) := (show M4 100 2 = M1 100 2 by rw [hM4]; exact mu_ne _ _ (by first | decide | omega)).trans q100_2_M1
  have q100_3_M4 : id (M4 100 3 = M 100 3) := (show M4 100 3 = M1 100 3 by rw [hM4]; exact mu_ne _ _ (by first | decide | omega)).trans q100_3_M1
  have q100_49_M4 : id (M4 100 49 = M 100 49) := (show M4 100 49 = M1 100 49 by rw [hM4]; exact mu_ne _ _ (by first | decide | omega)).trans q100_49_M1
  have q100_50_M4 : id (M4 100 50 = M 100 50) := (show M4 100 50 = M1 100 50 by rw [hM4]; exact mu_ne _ _ (by first | decide | omega)).trans q100_50_M1
  have q100_51_M4 : id (M4 100 51 = M 100 51) := (show M4 100 51 = M1 100 51 by rw [hM4]; exact mu_ne _ _ (by first | decide | omega)).trans q100_51_M1
  have q100_52_M4 : id (M4 100 52 = M 100 52) := (show M4 100 52 = M1 100 52 by rw [hM4]; exact mu_ne _ _ (by first | decide | omega)).trans q100_52_M1
  have q103_0_M4 : id (M4 103 0 = M 103 0) := (show M4 103 0 = M1 103 0 by rw [hM4]; exact mu_ne _ _ (by first | decide | omega)).trans q103_0_M1
  have q103_1_M4 : id (M4 103 1 = M 103 1) := (show M4 103 1 = M1 103 1 by rw [hM4]; exact mu_ne _ _ (by first | decide | omega)).trans q103_1_M1
  have q97_12_M4 : (M4 97 12 = M 97 12) := (show M4 97 12 = M1 97 12 by rw [hM4]; exact mu_ne _ _ (by first | decide | omega)).trans q97_12_M1
  have q99_2_M4 : (M4 99 2 = M 99 2) := (show M4 99 2 = M1 99 2 by rw [hM4]; exact mu_ne _ _ (by first | decide | omega)).trans q99_2_M1
  have wM4_99_2 : M4 99 2 = M1 99 2 := by rw [hM4]; exact mu_ne _ _ (by first | decide | omega)
  have xM4_97_0 : M4 97 0 = 0 := (show M4 97 0 = M1 97 0 by rw [hM4]; exact mu_ne _ _ (by first | decide | omega)).trans xM1_97_0
  have xM4_99_1 : M4 99 1 = 0 := by rw [hM4]; exact mu_at _ _ _ _
  have iM4 : IM M4 := IM.wrow1 iM1 hM4 (by omega) (fun i hi2 => by omega)
  refine g_aload_n (pc' := 27) 1 dX10_wash_26 rfl rfl ?_
  refine g_getR (pc' := 30) dX10_wash_27 rfl f_X10_13 rfl rfl ?_
  refine g_iconst (pc' := 31) dX10_wash_30 rfl ?_
  refine g_iconst (pc' := 32) dX10_wash_31 rfl ?_
  refine g_iast (pc' := 33) dX10_wash_32 rfl rfl (by decide) (by decide) (by decide) (fun M5 hM5 => ?_)
  have hM5 : M5 = mu M4 99 2 0 := hM5
  have iM5 : IM M5 := IM.wrow iM4 hM5 (by unfold okrow; omega)
  have fM5 : Fr (fun c => 97 ≤ c ∧ c ≤ 116) M M5 := Fr.wr fM4 hM5 (by first | decide | omega | (dsimp only; omega))
  have q99_0_M5 : (M5 99 0 = M 99 0) := (show M5 99 0 = M4 99 0 by rw [hM5]; exact mu_ne _ _ (by first | decide | omega)).trans q99_0_M4
  have q99_3_M5 : (M5 99 3 = M 99 3) := (show M5 99 3 = M4 99 3 by rw [hM5]; exact mu_ne _ _ (by first | decide | omega)).trans q99_3_M4
  have q100_0_M5 : id (M5 100 0 = M 100 0) := (show M5 100 0 = M4 100 0 by rw [hM5]; exact mu_ne _ _ (by first | decide | omega)).trans q100_0_M4
  have q100_1_M5 : id (M5 100 1 = M 100 1) := (show M5 100 1 = M4 100 1 by rw [hM5]; exact mu_ne _ _ (by first | decide | omega)).trans q100_1_M4
  have q100_2_M5 : id (M5 100 2 = M 100 2) := (show M5 100 2 = M4 100 2 by rw [hM5]; exact mu_ne _ _ (by first | decide | omega)).trans q100_2_M4
  have q100_3_M5 : id (M5 100 3 = M 100 3) := (show M5 100 3 = M4 100 3 by rw [hM5]; exact mu_ne _ _ (by first | decide | omega)).trans q100_3_M4
  have q100_49_M5 : id (M5 100 49 = M 100 49) := (show M5 100 49 = M4 100 49 by rw [hM5]; exact mu_ne _ _ (by first | decide | omega)).trans q100_49_M4
  have q100_50_M5 : id (M5 100 50 = M 100 50) := (show M5 100 50 = M4 100 50 by rw [hM5]; exact mu_ne _ _ (by first | decide | omega)).trans q100_50_M4
  have q100_51_M5 : id (M5 100 51 = M 100 51) := (show M5 100 51 = M4 100 51 by rw [hM5]; exact mu_ne _ _ (by first | decide | omega)).trans q100_51_M4
  have q100_52_M5 : id (M5 100 52 = M 100 52) := (show M5 100 52 = M4 100 52 by rw [hM5]; exact mu_ne _ _ (by first | decide | omega)).trans q100_52_M4
  have q103_0_M5 : id (M5 103 0 = M 103 0) := (show M5 103 0 = M4 103 0 by rw [hM5]; exact mu_ne _ _ (by first | decide | omega)).trans q103_0_M4
  have q103_1_M5 : id (M5 103 1 = M 103 1) := (show M5 103 1 = M4 103 1 by rw [hM5]; exact mu_ne _ _ (by first | decide | omega)).trans q103_1_M4
  have q97_12_M5 : (M5 97 12 = M 97 12) := (show M5 97 12 = M4 97 12 by rw [hM5]; exact mu_ne _ _ (by first | decide | omega)).trans q97_12_M4
  have wM5_99_1 : M5 99 1 = M4 99 1 := by rw [hM5]; exact mu_ne _ _ (by first | decide | omega)
  have xM5_97_0 : M5 97 0 = 0 := (show M5 97 0 = M4 97 0 by rw [hM5]; exact mu_ne _ _ (by first | decide | omega)).trans xM4_97_0
  have xM5_99_1 : M5 99 1 = 0 := (show M5 99 1 = M4 99 1 by rw [hM5]; exact mu_ne _ _ (by first | decide | omega)).trans xM4_99_1
  have xM5_99_2 : M5 99 2 = 0 := by rw [hM5]; exact mu_at _ _ _ _
  refine g_iload_n (pc' := 34) 0 dX10_wash_33 rfl rfl ?_
  refine g_ireturn dX10_wash_34 ?_
  exact ⟨iM5, fM5, q99_0_M5, q99_3_M5, q100_0_M5, q100_1_M5, q100_2_M5, q100_3_M5, q100_49_M5, q100_50_M5, q100_51_M5, q100_52_M5, q103_0_M5, q103_1_M5, q97_12_M5, by omega⟩
set_option maxHeartbeats 4000000 in
set_option maxRecDepth 100000 in
theorem c_X10_tasting (X : Cx) (M : Mm) (hi : IM M) (a : Int) (ha : inI a) (b : Int) (hb : inI b) (c : Int) (hc : inI c) : Con X 12 yX10_tasting cX10_tasting 5 (some .int) [vr X 97, vi a, vi b, vi c] M (Qi (fun r M1 => IM M1 ∧ Fr (fun c => 97 ≤ c ∧ c ≤ 116) M M1 ∧ M1 99 0 = M 99 0 ∧ M1 99 1 = M 99 1 ∧ M1 99 3 = M 99 3 ∧ M1 100 0 = M 100 0 ∧ M1 100 1 = M 100 1 ∧ M1 100 2 = M 100 2 ∧ M1 100 3 = M 100 3 ∧ M1 100 49 = M 100 49 ∧ M1 100 50 = M 100 50 ∧ M1 100 51 = M 100 51 ∧ M1 100 52 = M 100 52 ∧ M1 103 0 = M 103 0 ∧ M1 103 1 = M 103 1 ∧ M1 97 12 = M 97 12 ∧ (((b < 0 ∨ 3 < b ∨ c < 0 ∨ 100 < c) → r = -1 ∧ M1 99 2 = M 99 2) ∧ (0 ≤ b → b ≤ 3 → 0 ≤ c → c ≤ 100 → (a < 0 ∨ M 99 0 ≤ a) → r = -2 ∧ M1 99 2 = M 99 2) ∧ (0 ≤ b → b ≤ 3 → 0 ≤ c → c ≤ 100 → 0 ≤ a → a < M 99 0 → 6 ≤ M 99 2 → r = -5 ∧ M1 99 2 = M 99 2) ∧ (0 ≤ b → b ≤ 3 → 0 ≤ c → c ≤ 100 → 0 ≤ a → a < M 99 0 → M 99 2 < 6 → r = M 99 2 + 1 ∧ M1 99 2 = M 99 2 + 1)))) := by
  refine Con.ofG rfl (Nat.le_of_ble_eq_true rfl) ?_
  show G X 12 RX10 cX10_tasting 5 (some .int) (Qi (fun r M1 => IM M1 ∧ Fr (fun c => 97 ≤ c ∧ c ≤ 116) M M1 ∧ M1 99 0 = M 99 0 ∧ M1 99 1 = M 99 1 ∧ M1 99 3 = M 99 3 ∧ M1 100 0 = M 100 0 ∧ M1 100 1 = M 100 1 ∧ M1 100 2 = M 100 2 ∧ M1 100 3 = M 100 3 ∧ M1 100 49 = M 100 49 ∧ M1 100 50 = M 100 50 ∧ M1 100 51 = M 100 51 ∧ M1 100 52 = M 100 52 ∧ M1 103 0 = M 103 0 ∧ M1 103 1 = M 103 1 ∧ M1 97 12 = M 97 12 ∧ (((b < 0 ∨ 3 < b ∨ c < 0 ∨ 100 < c) → r = -1 ∧ M1 99 2 = M 99 2) ∧ (0 ≤ b → b ≤ 3 → 0 ≤ c → c ≤ 100 → (a < 0 ∨ M 99 0 ≤ a) → r = -2 ∧ M1 99 2 = M 99 2) ∧ (0 ≤ b → b ≤ 3 → 0 ≤ c → c ≤ 100 → 0 ≤ a → a < M 99 0 → 6 ≤ M 99 2 → r = -5 ∧ M1 99 2 = M 99 2) ∧ (0 ≤ b → b ≤ 3 → 0 ≤ c → c ≤ 100 → 0 ≤ a → a < M 99 0 → M 99 2 < 6 → r = M 99 2 + 1 ∧ M1 99 2 = M 99 2 + 1)))) 0 [(0, vr X 97), (1, vi a), (2, vi b), (3, vi c)] [] M
  have p0 := hi.1.1
  have p1 := hi.1.2.1
  have p2 := hi.1.2.2.1
  have p3 := hi.1.2.2.2.1
  have p12 := hi.2.2.2.1
  refine g_aload_n (pc' := 1) 0 dX10_tasting_0 rfl rfl ?_
  refine g_iconst (pc' := 2) dX10_tasting_1 rfl ?_
  refine g_putI (pc' := 5) dX10_tasting_2 rfl p_X10_77 rfl rfl (by decide) (fun M1 hM1 => ?_)
  have iM1 : IM M1 := IM.wr hi hM1 (by unfold okv; first | decide | omega)
  have fM1 : Fr (fun c => 97 ≤ c ∧ c ≤ 116) M M1 := Fr.wr Fr.rf hM1 (by first | decide | omega | (dsimp only; omega))
  have q99_0_M1 : (M1 99 0 = M 99 0) := (show M1 99 0 = M 99 0 by rw [hM1]; exact mu_ne _ _ (by first | decide | omega))
  have q99_1_M1 : (M1 99 1 = M 99 1) := (show M1 99 1 = M 99 1 by rw [hM1]; exact mu_ne _ _ (by first | decide | omega))
  have q99_3_M1 : (M1 99 3 = M 99 3) := (show M1 99 3 = M 99 3 by rw [hM1]; exact mu_ne _ _ (by first | decide | omega))
  have q100_0_M1 : id (M1 100 0 = M 100 0) := (show M1 100 0 = M 100 0 by rw [hM1]; exact mu_ne _ _ (by first | decide | omega))
  have q100_1_M1 : id (M1 100 1 = M 100 1) := (show M1 100 1 = M 100 1 by rw [hM1]; exact mu_ne _ _ (by first | decide | omega))
  have q100_2_M1 : id (M1 100 2 = M 100 2) := (show M1 100 2 = M 100 2 by rw [hM1]; exact mu_ne _ _ (by first | decide | omega))
  have q100_3_M1 : id (M1 100 3 = M 100 3) := (show M1 100 3 = M 100 3 by rw [hM1]; exact mu_ne _ _ (by first | decide | omega))
  have q100_49_M1 : id (M1 100 49 = M 100 49) := (show M1 100 49 = M 100 49 by rw [hM1]; exact mu_ne _ _ (by first | decide | omega))
  have q100_50_M1 : id (M1 100 50 = M 100 50) := (show M1 100 50 = M 100 50 by rw [hM1]; exact mu_ne _ _ (by first | decide | omega))
  have q100_51_M1 : id (M1 100 51 = M 100 51) := (show M1 100 51 = M 100 51 by rw [hM1]; exact mu_ne _ _ (by first | decide | omega))
  have q100_52_M1 : id (M1 100 52 = M 100 52) := (show M1 100 52 = M 100 52 by rw [hM1]; exact mu_ne _ _ (by first | decide | omega))
  have q103_0_M1 : id (M1 103 0 = M 103 0) := (show M1 103 0 = M 103 0 by rw [hM1]; exact mu_ne _ _ (by first | decide | omega))
  have q103_1_M1 : id (M1 103 1 = M 103 1) := (show M1 103 1 = M 103 1 by rw [hM1]; exact mu_ne _ _ (by first | decide | omega))
  have q97_12_M1 : (M1 97 12 = M 97 12) := (show M1 97 12 = M 97 12 by rw [hM1]; exact mu_ne _ _ (by first | decide | omega))
  have q99_2_M1 : (M1 99 2 = M 99 2) := (show M1 99 2 = M 99 2 by rw [hM1]; exact mu_ne _ _ (by first | decide | omega))
  have wM1_99_2 : M1 99 2 = M 99 2 := by rw [hM1]; exact mu_ne _ _ (by first | decide | omega)
  have xM1_97_0 : M1 97 0 = 0 := by rw [hM1]; exact mu_at _ _ _ _
  refine g_iload_n (pc' := 6) 2 dX10_tasting_5 rfl rfl ?_
  refine g_callSip (pc' := 9) (As := [vi b]) (S := []) dX10_tasting_6 rfl m_X10_105 w_X10_isStuff (c_X10_isStuff X M1 b hb) rfl (by decide) (by decide) rfl (Nat.le_of_ble_eq_true rfl) (fun z3 q2 => ?_)
  refine g_if_eq (pc' := 12) (tgt := 24) ⟨by omega, by omega⟩ dX10_tasting_9 rfl rfl (fun c4 => ?_) (fun c4 => ?_)
  · replace q2 := q2.resolve_left (fun h => absurd (c4.symm.trans h.1) (by decide))
    refine g_aload_n (pc' := 25) 0 dX10_tasting_24 rfl rfl ?_
    refine g_iconst (pc' := 26) dX10_tasting_25 rfl ?_
    refine g_callVi (pc' := 29) (As := [vi (-1)]) (b := 97) (S := []) dX10_tasting_26 rfl m_X10_87 w_X10_tell (c_X10_tell X M1 iM1 (-1) (by decide) (by omega)) rfl ⟨_, _, _, rfl, rfl, rfl⟩ (by decide) (by decide) rfl (Nat.le_of_ble_eq_true rfl) (fun z6 M7 q5 => ?_)
    obtain ⟨iM7, fM70, eM7_99_0, eM7_99_1, eM7_99_2, eM7_99_3, eM7_100_0, eM7_100_1, eM7_100_2, eM7_100_3, eM7_100_49, eM7_100_50, eM7_100_51, eM7_100_52, eM7_103_0, eM7_103_1, eM7_97_12, pM7⟩ := q5
    have fM7 : Fr (fun c => 97 ≤ c ∧ c ≤ 116) M M7 := Fr.tr fM1 fM70 fi_23
    have q99_0_M7 : (M7 99 0 = M 99 0) := eM7_99_0.trans q99_0_M1
    have q99_1_M7 : (M7 99 1 = M 99 1) := eM7_99_1.trans q99_1_M1
    have q99_3_M7 : (M7 99 3 = M 99 3) := eM7_99_3.trans q99_3_M1
    have q100_0_M7 : id (M7 100 0 = M 100 0) := eM7_100_0.trans q100_0_M1
    have q100_1_M7 : id (M7 100 1 = M 100 1) := eM7_100_1.trans q100_1_M1
    have q100_2_M7 : id (M7 100 2 = M 100 2) := eM7_100_2.trans q100_2_M1
    have q100_3_M7 : id (M7 100 3 = M 100 3) := eM7_100_3.trans q100_3_M1
    have q100_49_M7 : id (M7 100 49 = M 100 49) := eM7_100_49.trans q100_49_M1
    have q100_50_M7 : id (M7 100 50 = M 100 50) := eM7_100_50.trans q100_50_M1
    have q100_51_M7 : id (M7 100 51 = M 100 51) := eM7_100_51.trans q100_51_M1
    have q100_52_M7 : id (M7 100 52 = M 100 52) := eM7_100_52.trans q100_52_M1
    have q103_0_M7 : id (M7 103 0 = M 103 0) := eM7_103_0.trans q103_0_M1
    have q103_1_M7 : id (M7 103 1 = M 103 1) := eM7_103_1.trans q103_1_M1
    have q97_12_M7 : (M7 97 12 = M 97 12) := eM7_97_12.trans q97_12_M1
    have q99_2_M7 : (M7 99 2 = M 99 2) := eM7_99_2.trans q99_2_M1
    have wM7_99_2 : M7 99 2 = M1 99 2 := eM7_99_2
    clear eM7_100_0 eM7_100_1 eM7_100_2 eM7_100_3 eM7_100_49 eM7_100_50 eM7_100_51 eM7_100_52 eM7_103_0 eM7_103_1
    refine g_ireturn dX10_tasting_29 ?_
    exact ⟨iM7, fM7, q99_0_M7, q99_1_M7, q99_3_M7, q100_0_M7, q100_1_M7, q100_2_M7, q100_3_M7, q100_49_M7, q100_50_M7, q100_51_M7, q100_52_M7, q103_0_M7, q103_1_M7, q97_12_M7, by omega⟩
  · replace q2 := q2.resolve_right (fun h => c4 h.1)
    refine g_iload_n (pc' := 13) 3 dX10_tasting_12 rfl rfl ?_
    refine g_i2l (pc' := 14) hc dX10_tasting_13 rfl ?_
    refine g_lconst (pc' := 15) (v := 0) dX10_tasting_14 rfl (by decide) ?_
    refine g_ldc2 (pc' := 18) (v := 100) dX10_tasting_15 rfl k_X10_110 ?_
    refine g_callSip (pc' := 21) (As := [vl c, vl 0, vl 100]) (S := []) dX10_tasting_18 rfl m_X10_83 w_X10_in (c_X10_in X M1 c ⟨by omega, by omega⟩ 0 (by decide) 100 (by decide)) rfl (by decide) (by decide) rfl (Nat.le_of_ble_eq_true rfl) (fun z9 q8 => ?_)
    refine g_if_ne (pc' := 24) (tgt := 30) ⟨by omega, by omega⟩ dX10_tasting_21 rfl rfl (fun c10 => ?_) (fun c10 => ?_)
    · replace q8 := q8.resolve_right (fun h => c10 h.1)
      refine g_aload_n (pc' := 31) 0 dX10_tasting_30 rfl rfl ?_
      refine g_iload_n (pc' := 32) 1 dX10_tasting_31 rfl rfl ?_
      refine g_callVip (pc' := 35) (As := [vi a]) (b := 97) (S := []) dX10_tasting_32 rfl m_X10_102 w_X10_isGlass (c_X10_isGlass X M1 iM1 a ha) rfl ⟨_, _, _, rfl, rfl, rfl⟩ (by decide) (by decide) rfl (Nat.le_of_ble_eq_true rfl) (fun z12 q11 => ?_)
      refine g_if_ne (pc' := 38) (tgt := 45) ⟨by omega, by omega⟩ dX10_tasting_35 rfl rfl (fun c13 => ?_) (fun c13 => ?_)
      · replace q11 := q11.resolve_right (fun h => c13 h.1)
        refine g_aload_n (pc' := 46) 0 dX10_tasting_45 rfl rfl ?_
        refine g_getR (pc' := 49) dX10_tasting_46 rfl f_X10_13 rfl rfl ?_
        refine g_iconst (pc' := 50) dX10_tasting_49 rfl ?_
        refine g_iald (pc' := 51) dX10_tasting_50 rfl rfl (by decide) (by decide) (fun v14 ev14 rv14 => ?_)
        have ev14 : v14 = M1 99 2 := ev14
        have bv14 : 0 ≤ v14 ∧ v14 ≤ 6 := by rw [ev14]; exact iM1.1.2.2.1
        have av14 : v14 = M 99 2 := ev14.trans q99_2_M1
        refine g_istore (pc' := 53) (L' := [(4, vi v14), (0, vr X 97), (1, vi a), (2, vi b), (3, vi c)]) dX10_tasting_51 rfl (by decide) rfl ?_
        refine g_iload (pc' := 55) 0 dX10_tasting_53 rfl rfl ?_
        refine g_bipush (pc' := 57) (v := 6) dX10_tasting_55 rfl (by decide) ?_
        refine g_ic_ne (pc' := 60) (tgt := 67) rv14 (by decide) dX10_tasting_57 rfl rfl (fun c15 => ?_) (fun c15 => ?_)
        · refine g_aload_n (pc' := 68) 1 dX10_tasting_67 rfl rfl ?_
          refine g_getR (pc' := 71) dX10_tasting_68 rfl f_X10_13 rfl rfl ?_
          refine g_bipush (pc' := 73) (v := 13) dX10_tasting_71 rfl (by decide) ?_
          refine g_iconst (pc' := 74) dX10_tasting_73 rfl ?_
          refine g_iload (pc' := 76) 0 dX10_tasting_74 rfl rfl ?_
          refine g_imul (pc' := 77) dX10_tasting_76 rfl ?_
          refine g_iadd (pc' := 78) dX10_tasting_77 rfl ?_
          refine g_iload_n (pc' := 79) 2 dX10_tasting_78 rfl rfl ?_
          refine g_iast (pc' := 80) dX10_tasting_79 rfl rfl (by omega) (by omega) ha (fun M16 hM16 => ?_)
          have iM16 : IM M16 := IM.wrow iM1 hM16 (by unfold okrow; omega)
          have fM16 : Fr (fun c => 97 ≤ c ∧ c ≤ 116) M M16 := Fr.wr fM1 hM16 (by first | decide | omega | (dsimp only; omega))
          have q99_0_M16 : (M16 99 0 = M 99 0) := (show M16 99 0 = M1 99 0 by rw [hM16]; exact mu_ne _ _ (by first | decide | omega)).trans q99_0_M1
          have q99_1_M16 : (M16 99 1 = M 99 1) := (show M16 99 1 = M1 99 1 by rw [hM16]; exact mu_ne _ _ (by first | decide | omega)).trans q99_1_M1
          have q99_3_M16 : (M16 99 3 = M 99 3) := (show M16 99 3 = M1 99 3 by rw [hM16]; exact mu_ne _ _ (by first | decide | omega)).trans q99_3_M1
          have q100_0_M16 : id (M16 100 0 = M 100 0) := (show M16 100 0 = M1 100 0 by rw [hM16]; exact mu_ne _ _ (by first | decide | omega)).trans q100_0_M1
          have q100_1_M16 : id (M16 100 1 = M 100 1) := (show M16 100 1 = M1 100 1 by rw [hM16]; exact mu_ne _ _ (by first | decide | omega)).trans q100_1_M1
          have q100_2_M16 : id (M16 100 2 = M 100 2) := (show M16 100 2 = M1 100 2 by rw [hM16]; exact mu_ne _ _ (by first | decide | omega)).trans q100_2_M1
          have q100_3_M16 : id (M16 100 3 = M 100 3) := (show M16 100 3 = M1 100 3 by rw [hM16]; exact mu_ne _ _ (by first | decide | omega)).trans q100_3_M1
          have q100_49_M16 : id (M16 100 49 = M 100 49) := (show M16 100 49 = M1 100 49 by rw [hM16]; exact mu_ne _ _ (by first | decide | omega)).trans q100_49_M1
          have q100_50_M16 : id (M16 100 50 = M 100 50) := (show M16 100 50 = M1 100 50 by rw [hM16]; exact mu_ne _ _ (by first | decide | omega)).trans q100_50_M1
          have q100_51_M16 : id (M16 100 51 = M 100 51) := (show M16 100 51 = M1 100 51 by rw [hM16]; exact mu_ne _ _ (by first | decide | omega)).trans q100_51_M1
          have q100_52_M16 : id (M16 100 52 = M 100 52) := (show M16 100 52 = M1 100 52 by rw [hM16]; exact mu_ne _ _ (by first | decide | omega)).trans q100_52_M1
          have q103_0_M16 : id (M16 103 0 = M 103 0) := (show M16 103 0 = M1 103 0 by rw [hM16]; exact mu_ne _ _ (by first | decide | omega)).trans q103_0_M1
          have q103_1_M16 : id (M16 103 1 = M 103 1) := (show M16 103 1 = M1 103 1 by rw [hM16]; exact mu_ne _ _ (by first | decide | omega)).trans q103_1_M1
          have q97_12_M16 : (M16 97 12 = M 97 12) := (show M16 97 12 = M1 97 12 by rw [hM16]; exact mu_ne _ _ (by first | decide | omega)).trans q97_12_M1
          have q99_2_M16 : (M16 99 2 = M 99 2) := (show M16 99 2 = M1 99 2 by rw [hM16]; exact mu_ne _ _ (by first | decide | omega)).trans q99_2_M1
          have wM16_99_2 : M16 99 2 = M1 99 2 := by rw [hM16]; exact mu_ne _ _ (by first | decide | omega)
          have xM16_97_0 : M16 97 0 = 0 := (show M16 97 0 = M1 97 0 by rw [hM16]; exact mu_ne _ _ (by first | decide | omega)).trans xM1_97_0
          refine g_aload_n (pc' := 81) 1 dX10_tasting_80 rfl rfl ?_
          refine g_getR (pc' := 84) dX10_tasting_81 rfl f_X10_13 rfl rfl ?_
          refine g_bipush (pc' := 86) (v := 13) dX10_tasting_84 rfl (by decide) ?_
          refine g_iconst (pc' := 87) dX10_tasting_86 rfl ?_
          refine g_iload (pc' := 89) 0 dX10_tasting_87 rfl rfl ?_
          refine g_imul (pc' := 90) dX10_tasting_89 rfl ?_
          refine g_iadd (pc' := 91) dX10_tasting_90 rfl ?_
          refine g_iconst (pc' := 92) dX10_tasting_91 rfl ?_
          refine g_iadd (pc' := 93) dX10_tasting_92 rfl ?_
          refine g_iload_n (pc' := 94) 3 dX10_tasting_93 rfl rfl ?_
          refine g_iast (pc' := 95) dX10_tasting_94 rfl rfl (by omega) (by omega) hb (fun M17 hM17 => ?_)
          have iM17 : IM M17 := IM.wrow iM16 hM17 (by unfold okrow; omega)
          have fM17 : Fr (fun c => 97 ≤ c ∧ c ≤ 116) M M17 := Fr.wr fM16 hM17 (by first | decide | omega | (dsimp only; omega))
          have q99_0_M17 : (M17 99 0 = M 99 0) := (show M17 99 0 = M16 99 0 by rw [hM17]; exact mu_ne _ _ (by first | decide | omega)).trans q99_0_M16
          have q99_1_M17 : (M17 99 1 = M 99 1) := (show M17 99 1 = M16 99 1 by rw [hM17]; exact mu_ne _ _ (by first | decide | omega)).trans q99_1_M16
          have q99_3_M17 : (M17 99 3 = M 99 3) := (show M17 99 3 = M16 99 3 by rw [hM17]; exact mu_ne _ _ (by first | decide | omega)).trans q99_3_M16
          have q100_0_M17 : id (M17 100 0 = M 100 0) := (show M17 100 0 = M16 100 0 by rw [hM17]; exact mu_ne _ _ (by first | decide | omega)).trans q100_0_M16
          have q100_1_M17 : id (M17 100 1 = M 100 1) := (show M17 100 1 = M16 100 1 by rw [hM17]; exact mu_ne _ _ (by first | decide | omega)).trans q100_1_M16
          have q100_2_M17 : id (M17 100 2 = M 100 2) := (show M17 100 2 = M16 100 2 by rw [hM17]; exact mu_ne _ _ (by first | decide | omega)).trans q100_2_M16
          have q100_3_M17 : id (M17 100 3 = M 100 3) := (show M17 100 3 = M16 100 3 by rw [hM17]; exact mu_ne _ _ (by first | decide | omega)).trans q100_3_M16
          have q100_49_M17 : id (M17 100 49 = M 100 49) := (show M17 100 49 = M16 100 49 by rw [hM17]; exact mu_ne _ _ (by first | decide | omega)).trans q100_49_M16
          have q100_50_M17 : id (M17 100 50 = M 100 50) := (show M17 100 50 = M16 100 50 by rw [hM17]; exact mu_ne _ _ (by first | decide | omega)).trans q100_50_M16
          have q100_51_M17 : id (M17 100 51 = M 100 51) := (show M17 100 51 = M16 100 51 by rw [hM17]; exact mu_ne _ _ (by first | decide | omega)).trans q100_51_M16
          have q100_52_M17 : id (M17 100 52 = M 100 52) := (show M17 100 52 = M16 100 52 by rw [hM17]; exact mu_ne _ _ (by first | decide | omega)).trans q100_52_M16
          have q103_0_M17 : id (M17 103 0 = M 103 0) := (show M17 103 0 = M16 103 0 by rw [hM17]; exact mu_ne _ _ (by first | decide | omega)).trans q103_0_M16
          have q103_1_M17 : id (M17 103 1 = M 103 1) := (show M17 103 1 = M16 103 1 by rw [hM17]; exact mu_ne _ _ (by first | decide | omega)).trans q103_1_M16
          have q97_12_M17 : (M17 97 12 = M 97 12) := (show M17 97 12 = M16 97 12 by rw [hM17]; exact mu_ne _ _ (by first | decide | omega)).trans q97_12_M16
          have q99_2_M17 : (M17 99 2 = M 99 2) := (show M17 99 2 = M16 99 2 by rw [hM17]; exact mu_ne _ _ (by first | decide | omega)).trans q99_2_M16
          have wM17_99_2 : M17 99 2 = M16 99 2 := by rw [hM17]; exact mu_ne _ _ (by first | decide | omega)
          have xM17_97_0 : M17 97 0 = 0 := (show M17 97 0 = M16 97 0 by rw [hM17]; exact mu_ne _ _ (by first | decide | omega)).trans xM16_97_0
          refine g_aload_n (pc' := 96) 1 dX10_tasting_95 rfl rfl ?_
          refine g_getR (pc' := 99) dX10_tasting_96 rfl f_X10_13 rfl rfl ?_
          refine g_bipush (pc' := 101) (v := 13) dX10_tasting_99 rfl (by decide) ?_
          refine g_iconst (pc' := 102) dX10_tasting_101 rfl ?_
          refine g_iload (pc' := 104) 0 dX10_tasting_102 rfl rfl ?_
          refine g_imul (pc' := 105) dX10_tasting_104 rfl ?_
          refine g_iadd (pc' := 106) dX10_tasting_105 rfl ?_
          refine g_iconst (pc' := 107) dX10_tasting_106 rfl ?_
          refine g_iadd (pc' := 108) dX10_tasting_107 rfl ?_
          refine g_iload_n (pc' := 109) 4 dX10_tasting_108 rfl rfl ?_
          refine g_iast (pc' := 110) dX10_tasting_109 rfl rfl (by omega) (by omega) hc (fun M18 hM18 => ?_)
          have iM18 : IM M18 := IM.wrow iM17 hM18 (by unfold okrow; omega)
          have fM18 : Fr (fun c => 97 ≤ c ∧ c ≤ 116) M M18 := Fr.wr fM17 hM18 (by first | decide | omega | (dsimp only; omega))
          have q99_0_M18 : (M18 99 0 = M 99 0) := (show M18 99 0 = M17 99 0 by rw [hM18]; exact mu_ne _ _ (by first | decide | omega)).trans q99_0_M17
          have q99_1_M18 : (M18 99 1 = M 99 1) := (show M18 99 1 = M17 99 1 by rw [hM18]; exact mu_ne _ _ (by first | decide | omega)).trans q99_1_M17
          have q99_3_M18 : (M18 99 3 = M 99 3) := (show M18 99 3 = M17 99 3 by rw [hM18]; exact mu_ne _ _ (by first | decide | omega)).trans q99_3_M17
          have q100_0_M18 : id (M18 100 0 = M 100 0) := (show M18 100 0 = M17 100 0 by rw [hM18]; exact mu_ne _ _ (by first | decide | omega)).trans q100_0_M17
          have q100_1_M18 : id (M18 100 1 = M 100 1) := (show M18 100 1 = M17 100 1 by rw [hM18]; exact mu_ne _ _ (by first | decide | omega)).trans q100_1_M17
          have q100_2_M18 : id (M18 100 2 = M 100 2) := (show M18 100 2 = M17 100 2 by rw [hM18]; exact mu_ne _ _ (by first | decide | omega)).trans q100_2_M17
          have q100_3_M18 : id (M18 100 3 = M 100 3) := (show M18 100 3 = M17 100 3 by rw [hM18]; exact mu_ne _ _ (by first | decide | omega)).trans q100_3_M17
          have q100_49_M18 : id (M18 100 49 = M 100 49) := (show M18 100 49 = M17 100 49 by rw [hM18]; exact mu_ne _ _ (by first | decide | omega)).trans q100_49_M17
          have q100_50_M18 : id (M18 100 50 = M 100 50) := (show M18 100 50 = M17 100 50 by rw [hM18]; exact mu_ne _ _ (by first | decide | omega)).trans q100_50_M17
          have q100_51_M18 : id (M18 100 51 = M 100 51) := (show M18 100 51 = M17 100 51 by rw [hM18]; exact mu_ne _ _ (by first | decide | omega)).trans q100_51_M17
          have q100_52_M18 : id (M18 100 52 = M 100 52) := (show M18 100 52 = M17 100 52 by rw [hM18]; exact mu_ne _ _ (by first | decide | omega)).trans q100_52_M17
          have q103_0_M18 : id (M18 103 0 = M 103 0) := (show M18 103 0 = M17 103 0 by rw [hM18]; exact mu_ne _ _ (by first | decide | omega)).trans q103_0_M17
          have q103_1_M18 : id (M18 103 1 = M 103 1) := (show M18 103 1 = M17 103 1 by rw [hM18]; exact mu_ne _ _ (by first | decide | omega)).trans q103_1_M17
          have q97_12_M18 : (M18 97 12 = M 97 12) := (show M18 97 12 = M17 97 12 by rw [hM18]; exact mu_ne _ _ (by first | decide | omega)).trans q97_12_M17
          have q99_2_M18 : (M18 99 2 = M 99 2) := (show M18 99 2 = M17 99 2 by rw [hM18]; exact mu_ne _ _ (by first | decide | omega)).trans q99_2_M17
          have wM18_99_2 : M18 99 2 = M17 99 2 := by rw [hM18]; exact mu_ne _ _ (by first | decide | omega)
          have xM18_97_0 : M18 97 0 = 0 := (show M18 97 0 = M17 97 0 by rw [hM18]; exact mu_ne _ _ (by first | decide | omega)).trans xM17_97_0
          refine g_aload_n (pc' := 111) 1 dX10_tasting_110 rfl rfl ?_
          refine g_getR (pc' := 114) dX10_tasting_111 rfl f_X10_13 rfl rfl ?_
          refine g_iconst (pc' := 115) dX10_tasting_114 rfl ?_
          refine g_dup2_11 (pc' := 116) dX10_tasting_115 rfl rfl rfl ?_
          refine g_iald (pc' := 117) dX10_tasting_116 rfl rfl (by decide) (by decide) (fun v19 ev19 rv19 => ?_)
          have ev19 : v19 = M18 99 2 := ev19
          have bv19 : 0 ≤ v19 ∧ v19 ≤ 6 := by rw [ev19]; exact iM18.1.2.2.1
          have av19 : v19 = M 99 2 := ev19.trans q99_2_M18
          obtain rfl : v14 = v19 := av14.trans av19.symm
          refine g_iconst (pc' := 118) dX10_tasting_117 rfl ?_
          refine g_iadd (pc' := 119) dX10_tasting_118 rfl ?_
          refine g_iast (pc' := 120) dX10_tasting_119 rfl rfl (by decide) (by decide) ⟨by omega, by omega⟩ (fun M20 hM20 => ?_)
          have hM20 : M20 = mu M18 99 2 (v14 + 1) := hM20
          have iM20 : IM M20 := IM.wrow iM18 hM20 (by unfold okrow; omega)
          have fM20 : Fr (fun c => 97 ≤ c ∧ c ≤ 116) M M20 := Fr.wr fM18 hM20 (by first | decide | omega | (dsimp only; omega))
          have q99_0_M20 : (M20 99 0 = M 99 0) := (show M20 99 0 = M18 99 0 by rw [hM20]; exact mu_ne _ _ (by first | decide | omega)).trans q99_0_M18
          have q99_1_M20 : (M20 99 1 = M 99 1) := (show M20 99 1 = M18 99 1 by rw [hM20]; exact mu_ne _ _ (by first | decide | omega)).trans q99_1_M18
          have q99_3_M20 : (M20 99 3 = M 99 3) := (show M20 99 3 = M18 99 3 by rw [hM20]; exact mu_ne _ _ (by first | decide | omega)).trans q99_3_M18
          have q100_0_M20 : id (M20 100 0 = M 100 0) := (show M20 100 0 = M18 100 0 by rw [hM20]; exact mu_ne _ _ (by first | decide | omega)).trans q100_0_M18
          have q100_1_M20 : id (M20 100 1 = M 100 1) := (show M20 100 1 = M18 100 1 by rw [hM20]; exact mu_ne _ _ (by first | decide | omega)).trans q100_1_M18
          have q100_2_M20 : id (M20 100 2 = M 100 2) := (show M20 100 2 = M18 100 2 by rw [hM20]; exact mu_ne _ _ (by first | decide | omega)).trans q100_2_M18
          have q100_3_M20 : id (M20 100 3 = M 100 3) := (show M20 100 3 = M18 100 3 by rw [hM20]; exact mu_ne _ _ (by first | decide | omega)).trans q100_3_M18
          have q100_49_M20 : id (M20 100 49 = M 100 49) := (show M20 100 49 = M18 100 49 by rw [hM20]; exact mu_ne _ _ (by first | decide | omega)).trans q100_49_M18
          have q100_50_M20 : id (M20 100 50 = M 100 50) := (show M20 100 50 = M18 100 50 by rw [hM20]; exact mu_ne _ _ (by first | decide | omega)).trans q100_50_M18
          have q100_51_M20 : id (M20 100 51 = M 100 51) := (show M20 100 51 = M18 100 51 by rw [hM20]; exact mu_ne _ _ (by first | decide | omega)).trans q100_51_M18
          have q100_52_M20 : id (M20 100 52 = M 100 52) := (show M20 100 52 = M18 100 52 by rw [hM20]; exact mu_ne _ _ (by first | decide | omega)).trans q100_52_M18
          have q103_0_M20 : id (M20 103 0 = M 103 0) := (show M20 103 0 = M18 103 0 by rw [hM20]; exact mu_ne _ _ (by first | decide | omega)).trans q103_0_M18
          have q103_1_M20 : id (M20 103 1 = M 103 1) := (show M20 103 1 = M18 103 1 by rw [hM20]; exact mu_ne _ _ (by first | decide | omega)).trans q103_1_M18
          have q97_12_M20 : (M20 97 12 = M 97 12) := (show M20 97 12 = M18 97 12 by rw [hM20]; exact mu_ne _ _ (by first | decide | omega)).trans q97_12_M18
          have xM20_97_0 : M20 97 0 = 0 := (show M20 97 0 = M18 97 0 by rw [hM20]; exact mu_ne _ _ (by first | decide | omega)).trans xM18_97_0
          have xM20_99_2 : M20 99 2 = v14 + 1 := by rw [hM20]; exact mu_at _ _ _ _
          refine g_aload_n (pc' := 121) 1 dX10_tasting_120 rfl rfl ?_
          refine g_iload (pc' := 123) 0 dX10_tasting_121 rfl rfl ?_
          refine g_iconst (pc' := 124) dX10_tasting_123 rfl ?_
          refine g_iadd (pc' := 125) dX10_tasting_124 rfl ?_
          refine g_callVi (pc' := 128) (As := [vi (v14 + 1)]) (b := 97) (S := []) dX10_tasting_125 rfl m_X10_87 w_X10_tell (c_X10_tell X M20 iM20 (v14 + 1) ⟨by omega, by omega⟩ (by omega)) rfl ⟨_, _, _, rfl, rfl, rfl⟩ (by decide) (by decide) rfl (Nat.le_of_ble_eq_true rfl) (fun z22 M23 q21 => ?_)
          obtain ⟨iM23, fM230, eM23_99_0, eM23_99_1, eM23_99_2, eM23_99_3, eM23_100_0, eM23_100_1, eM23_100_2, eM23_100_3, eM23_100_49, eM23_100_50, eM23_100_51, eM23_100_52, eM23_103_0, eM23_103_1, eM23_97_12, pM23⟩ := q21
          have fM23 : Fr (fun c => 97 ≤ c ∧ c ≤ 116) M M23 := Fr.tr fM20 fM230 fi_23
          have q99_0_M23 : (M23 99 0 = M 99 0) := eM23_99_0.trans q99_0_M20
          have q99_1_M23 : (M23 99 1 = M 99 1) := eM23_99_1.trans q99_1_M20
          have q99_3_M23 : (M23 99 3 = M 99 3) := eM23_99_3.trans q99_3_M20
          have q100_0_M23 : id (M23 100 0 = M 100 0) := eM23_100_0.trans q100_0_M20
          have q100_1_M23 : id (M23 100 1 = M 100 1) := eM23_100_1.trans q100_1_M20
          have q100_2_M23 : id (M23 100 2 = M 100 2) := eM23_100_2.trans q100_2_M20
          have q100_3_M23 : id (M23 100 3 = M 100 3) := eM23_100_3.trans q100_3_M20
          have q100_49_M23 : id (M23 100 49 = M 100 49) := eM23_100_49.trans q100_49_M20
          have q100_50_M23 : id (M23 100 50 = M 100 50) := eM23_100_50.trans q100_50_M20
          have q100_51_M23 : id (M23 100 51 = M 100 51) := eM23_100_51.trans q100_51_M20
          have q100_52_M23 : id (M23 100 52 = M 100 52) := eM23_100_52.trans q100_52_M20
          have q103_0_M23 : id (M23 103 0 = M 103 0) := eM23_103_0.trans q103_0_M20
          have q103_1_M23 : id (M23 103 1 = M 103 1) := eM23_103_1.trans q103_1_M20
          have q97_12_M23 : (M23 97 12 = M 97 12) := eM23_97_12.trans q97_12_M20
          have wM23_99_2 : M23 99 2 = M20 99 2 := eM23_99_2
          have xM23_99_2 : M23 99 2 = v14 + 1 := eM23_99_2.trans xM20_99_2
          clear eM23_100_0 eM23_100_1 eM23_100_2 eM23_100_3 eM23_100_49 eM23_100_50 eM23_100_51 eM23_100_52 eM23_103_0 eM23_103_1
          refine g_ireturn dX10_tasting_128 ?_
          exact ⟨iM23, fM23, q99_0_M23, q99_1_M23, q99_3_M23, q100_0_M23, q100_1_M23, q100_2_M23, q100_3_M23, q100_49_M23, q100_50_M23, q100_51_M23, q100_52_M23, q103_0_M23, q103_1_M23, q97_12_M23, by omega⟩
        · refine g_aload_n (pc' := 61) 1 dX10_tasting_60 rfl rfl ?_
          refine g_bipush (pc' := 63) (v := (-5)) dX10_tasting_61 rfl (by decide) ?_
          refine g_callVi (pc' := 66) (As := [vi (-5)]) (b := 97) (S := []) dX10_tasting_63 rfl m_X10_87 w_X10_tell (c_X10_tell X M1 iM1 (-5) (by decide) (by omega)) rfl ⟨_, _, _, rfl, rfl, rfl⟩ (by decide) (by decide) rfl (Nat.le_of_ble_eq_true rfl) (fun z25 M26 q24 => ?_)
          obtain ⟨iM26, fM260, eM26_99_0, eM26_99_1, eM26_99_2, eM26_99_3, eM26_100_0, eM26_100_1, eM26_100_2, eM26_100_3, eM26_100_49, eM26_100_50, eM26_100_51, eM26_100_52, eM26_103_0, eM26_103_1, eM26_97_12, pM26⟩ := q24
          have fM26 : Fr (fun c => 97 ≤ c ∧ c ≤ 116) M M26 := Fr.tr fM1 fM260 fi_23
          have q99_0_M26 : (M26 99 0 = M 99 0) := eM26_99_0.trans q99_0_M1
          have q99_1_M26 : (M26 99 1 = M 99 1) := eM26_99_1.trans q99_1_M1
          have q99_3_M26 : (M26 99 3 = M 99 3) := eM26_99_3.trans q99_3_M1
          have q100_0_M26 : id (M26 100 0 = M 100 0) := eM26_100_0.trans q100_0_M1
          have q100_1_M26 : id (M26 100 1 = M 100 1) := eM26_100_1.trans q100_1_M1
          have q100_2_M26 : id (M26 100 2 = M 100 2) := eM26_100_2.trans q100_2_M1
          have q100_3_M26 : id (M26 100 3 = M 100 3) := eM26_100_3.trans q100_3_M1
          have q100_49_M26 : id (M26 100 49 = M 100 49) := eM26_100_49.trans q100_49_M1
          have q100_50_M26 : id (M26 100 50 = M 100 50) := eM26_100_50.trans q100_50_M1
          have q100_51_M26 : id (M26 100 51 = M 100 51) := eM26_100_51.trans q100_51_M1
          have q100_52_M26 : id (M26 100 52 = M 100 52) := eM26_100_52.trans q100_52_M1
          have q103_0_M26 : id (M26 103 0 = M 103 0) := eM26_103_0.trans q103_0_M1
          have q103_1_M26 : id (M26 103 1 = M 103 1) := eM26_103_1.trans q103_1_M1
          have q97_12_M26 : (M26 97 12 = M 97 12) := eM26_97_12.trans q97_12_M1
          have q99_2_M26 : (M26 99 2 = M 99 2) := eM26_99_2.trans q99_2_M1
          have wM26_99_2 : M26 99 2 = M1 99 2 := eM26_99_2
          clear eM26_100_0 eM26_100_1 eM26_100_2 eM26_100_3 eM26_100_49 eM26_100_50 eM26_100_51 eM26_100_52 eM26_103_0 eM26_103_1
          refine g_ireturn dX10_tasting_66 ?_
          exact ⟨iM26, fM26, q99_0_M26, q99_1_M26, q99_3_M26, q100_0_M26, q100_1_M26, q100_2_M26, q100_3_M26, q100_49_M26, q100_50_M26, q100_51_M26, q100_52_M26, q103_0_M26, q103_1_M26, q97_12_M26, by omega⟩
      · replace q11 := q11.resolve_left (fun h => absurd (c13.symm.trans h.1) (by decide))
        refine g_aload_n (pc' := 39) 0 dX10_tasting_38 rfl rfl ?_
        refine g_bipush (pc' := 41) (v := (-2)) dX10_tasting_39 rfl (by decide) ?_
        refine g_callVi (pc' := 44) (As := [vi (-2)]) (b := 97) (S := []) dX10_tasting_41 rfl m_X10_87 w_X10_tell (c_X10_tell X M1 iM1 (-2) (by decide) (by omega)) rfl ⟨_, _, _, rfl, rfl, rfl⟩ (by decide) (by decide) rfl (Nat.le_of_ble_eq_true rfl) (fun z28 M29 q27 => ?_)
        obtain ⟨iM29, fM290, eM29_99_0, eM29_99_1, eM29_99_2, eM29_99_3, eM29_100_0, eM29_100_1, eM29_100_2, eM29_100_3, eM29_100_49, eM29_100_50, eM29_100_51, eM29_100_52, eM29_103_0, eM29_103_1, eM29_97_12, pM29⟩ := q27
        have fM29 : Fr (fun c => 97 ≤ c ∧ c ≤ 116) M M29 := Fr.tr fM1 fM290 fi_23
        have q99_0_M29 : (M29 99 0 = M 99 0) := eM29_99_0.trans q99_0_M1
        have q99_1_M29 : (M29 99 1 = M 99 1) := eM29_99_1.trans q99_1_M1
        have q99_3_M29 : (M29 99 3 = M 99 3) := eM29_99_3.trans q99_3_M1
        have q100_0_M29 : id (M29 100 0 = M 100 0) := eM29_100_0.trans q100_0_M1
        have q100_1_M29 : id (M29 100 1 = M 100 1) := eM29_100_1.trans q100_1_M1
        have q100_2_M29 : id (M29 100 2 = M 100 2) := eM29_100_2.trans q100_2_M1
        have q100_3_M29 : id (M29 100 3 = M 100 3) := eM29_100_3.trans q100_3_M1
        have q100_49_M29 : id (M29 100 49 = M 100 49) := eM29_100_49.trans q100_49_M1
        have q100_50_M29 : id (M29 100 50 = M 100 50) := eM29_100_50.trans q100_50_M1
        have q100_51_M29 : id (M29 100 51 = M 100 51) := eM29_100_51.trans q100_51_M1
        have q100_52_M29 : id (M29 100 52 = M 100 52) := eM29_100_52.trans q100_52_M1
        have q103_0_M29 : id (M29 103 0 = M 103 0) := eM29_103_0.trans q103_0_M1
        have q103_1_M29 : id (M29 103 1 = M 103 1) := eM29_103_1.trans q103_1_M1
        have q97_12_M29 : (M29 97 12 = M 97 12) := eM29_97_12.trans q97_12_M1
        have q99_2_M29 : (M29 99 2 = M 99 2) := eM29_99_2.trans q99_2_M1
        have wM29_99_2 : M29 99 2 = M1 99 2 := eM29_99_2
        clear eM29_100_0 eM29_100_1 eM29_100_2 eM29_100_3 eM29_100_49 eM29_100_50 eM29_100_51 eM29_100_52 eM29_103_0 eM29_103_1
        refine g_ireturn dX10_tasting_44 ?_
        exact ⟨iM29, fM29, q99_0_M29, q99_1_M29, q99_3_M29, q100_0_M29, q100_1_M29, q100_2_M29, q100_3_M29, q100_49_M29, q100_50_M29, q100_51_M29, q100_52_M29, q103_0_M29, q103_1_M29, q97_12_M29, by omega⟩
    · replace q8 := q8.resolve_left (fun h => absurd (c10.symm.trans h.1) (by decide))
      refine g_aload_n (pc' := 25) 0 dX10_tasting_24 rfl rfl ?_
      refine g_iconst (pc' := 26) dX10_tasting_25 rfl ?_
      refine g_callVi (pc' := 29) (As := [vi (-1)]) (b := 97) (S := []) dX10_tasting_26 rfl m_X10_87 w_X10_tell (c_X10_tell X M1 iM1 (-1) (by decide) (by omega)) rfl ⟨_, _, _, rfl, rfl, rfl⟩ (by decide) (by decide) rfl (Nat.le_of_ble_eq_true rfl) (fun z31 M32 q30 => ?_)
      obtain ⟨iM32, fM320, eM32_99_0, eM32_99_1, eM32_99_2, eM32_99_3, eM32_100_0, eM32_100_1, eM32_100_2, eM32_100_3, eM32_100_49, eM32_100_50, eM32_100_51, eM32_100_52, eM32_103_0, eM32_103_1, eM32_97_12, pM32⟩ := q30
      have fM32 : Fr (fun c => 97 ≤ c ∧ c ≤ 116) M M32 := Fr.tr fM1 fM320 fi_23
      have q99_0_M32 : (M32 99 0 = M 99 0) := eM32_99_0.trans q99_0_M1
      have q99_1_M32 : (M32 99 1 = M 99 1) := eM32_99_1.trans q99_1_M1
      have q99_3_M32 : (M32 99 3 = M 99 3) := eM32_99_3.trans q99_3_M1
      have q100_0_M32 : id (M32 100 0 = M 100 0) := eM32_100_0.trans q100_0_M1
      have q100_1_M32 : id (M32 100 1 = M 100 1) := eM32_100_1.trans q100_1_M1
      have q100_2_M32 : id (M32 100 2 = M 100 2) := eM32_100_2.trans q100_2_M1
      have q100_3_M32 : id (M32 100 3 = M 100 3) := eM32_100_3.trans q100_3_M1
      have q100_49_M32 : id (M32 100 49 = M 100 49) := eM32_100_49.trans q100_49_M1
      have q100_50_M32 : id (M32 100 50 = M 100 50) := eM32_100_50.trans q100_50_M1
      have q100_51_M32 : id (M32 100 51 = M 100 51) := eM32_100_51.trans q100_51_M1
      have q100_52_M32 : id (M32 100 52 = M 100 52) := eM32_100_52.trans q100_52_M1
      have q103_0_M32 : id (M32 103 0 = M 103 0) := eM32_103_0.trans q103_0_M1
      have q103_1_M32 : id (M32 103 1 = M 103 1) := eM32_103_1.trans q103_1_M1
      have q97_12_M32 : (M32 97 12 = M 97 12) := eM32_97_12.trans q97_12_M1
      have q99_2_M32 : (M32 99 2 = M 99 2) := eM32_99_2.trans q99_2_M1
      have wM32_99_2 : M32 99 2 = M1 99 2 := eM32_99_2
      clear eM32_100_0 eM32_100_1 eM32_100_2 eM32_100_3 eM32_100_49 eM32_100_50 eM32_100_51 eM32_100_52 eM32_103_0 eM32_103_1
      refine g_ireturn dX10_tasting_29 ?_
      exact ⟨iM32, fM32, q99_0_M32, q99_1_M32, q99_3_M32, q100_0_M32, q100_1_M32, q100_2_M32, q100_3_M32, q100_49_M32, q100_50_M32, q100_51_M32, q100_52_M32, q103_0_M32, q103_1_M32, q97_12_M32, by omega⟩
set_option maxHeartbeats 4000000 in
set_option maxRecDepth 100000 in
theorem c_X10_wine (X : Cx) (M : Mm) (hi : IM M) (a : Int) (ha : inI a) (b : Int) (hb : inI b) (c : Int) (hc : inI c) : Con X 12 yX10_wine cX10_wine 5 (some .int) [vr X 97, vi a, vi b, vi c] M (Qi (fun r M1 => IM M1 ∧ Fr (fun c => 97 ≤ c ∧ c ≤ 116) M M1 ∧ M1 99 0 = M 99 0 ∧ M1 99 1 = M 99 1 ∧ M1 99 2 = M 99 2 ∧ M1 100 0 = M 100 0 ∧ M1 100 1 = M 100 1 ∧ M1 100 2 = M 100 2 ∧ M1 100 3 = M 100 3 ∧ M1 100 49 = M 100 49 ∧ M1 100 50 = M 100 50 ∧ M1 100 51 = M 100 51 ∧ M1 100 52 = M 100 52 ∧ M1 103 0 = M 103 0 ∧ M1 103 1 = M 103 1 ∧ M1 97 12 = M 97 12 ∧ (((a < 0 ∨ 100 < a ∨ b < 0 ∨ 99 < b ∨ c < 0 ∨ 20 < c) → r = -1 ∧ M1 99 3 = M 99 3) ∧ (0 ≤ a → a ≤ 100 → 0 ≤ b → b ≤ 99 → 0 ≤ c → c ≤ 20 → 6 ≤ M 99 3 → r = -5 ∧ M1 99 3 = M 99 3) ∧ (0 ≤ a → a ≤ 100 → 0 ≤ b → b ≤ 99 → 0 ≤ c → c ≤ 20 → M 99 3 < 6 → r = M 99 3 ∧ M1 99 3 = M 99 3 + 1)))) := by
  refine Con.ofG rfl (Nat.le_of_ble_eq_true rfl) ?_
  show G X 12 RX10 cX10_wine 5 (some .int) (Qi (fun r M1 => IM M1 ∧ Fr (fun c => 97 ≤ c ∧ c ≤ 116) M M1 ∧ M1 99 0 = M 99 0 ∧ M1 99 1 = M 99 1 ∧ M1 99 2 = M 99 2 ∧ M1 100 0 = M 100 0 ∧ M1 100 1 = M 100 1 ∧ M1 100 2 = M 100 2 ∧ M1 100 3 = M 100 3 ∧ M1 100 49 = M 100 49 ∧ M1 100 50 = M 100 50 ∧ M1 100 51 = M 100 51 ∧ M1 100 52 = M 100 52 ∧ M1 103 0 = M 103 0 ∧ M1 103 1 = M 103 1 ∧ M1 97 12 = M 97 12 ∧ (((a < 0 ∨ 100 < a ∨ b < 0 ∨ 99 < b ∨ c < 0 ∨ 20 < c) → r = -1 ∧ M1 99 3 = M 99 3) ∧ (0 ≤ a → a ≤ 100 → 0 ≤ b → b ≤ 99 → 0 ≤ c → c ≤ 20 → 6 ≤ M 99 3 → r = -5 ∧ M1 99 3 = M 99 3) ∧ (0 ≤ a → a ≤ 100 → 0 ≤ b → b ≤ 99 → 0 ≤ c → c ≤ 20 → M 99 3 < 6 → r = M 99 3 ∧ M1 99 3 = M 99 3 + 1)))) 0 [(0, vr X 97), (1, vi a), (2, vi b), (3, vi c)] [] M
  have p0 := hi.1.1
  have p1 := hi.1.2.1
  have p2 := hi.1.2.2.1
  have p3 := hi.1.2.2.2.1
  have p12 := hi.2.2.2.1
  refine g_aload_n (pc' := 1) 0 dX10_wine_0 rfl rfl ?_
  refine g_iconst (pc' := 2) dX10_wine_1 rfl ?_
  refine g_putI (pc' := 5) dX10_wine_2 rfl p_X10_77 rfl rfl (by decide) (fun M1 hM1 => ?_)
  have iM1 : IM M1 := IM.wr hi hM1 (by unfold okv; first | decide | omega)
  have fM1 : Fr (fun c => 97 ≤ c ∧ c ≤ 116) M M1 := Fr.wr Fr.rf hM1 (by first | decide | omega | (dsimp only; omega))
  have q99_0_M1 : (M1 99 0 = M 99 0) := (show M1 99 0 = M 99 0 by rw [hM1]; exact mu_ne _ _ (by first | decide | omega))
  have q99_1_M1 : (M1 99 1 = M 99 1) := (show M1 99 1 = M 99 1 by rw [hM1]; exact mu_ne _ _ (by first | decide | omega))
  have q99_2_M1 : (M1 99 2 = M 99 2) := (show M1 99 2 = M 99 2 by rw [hM1]; exact mu_ne _ _ (by first | decide | omega))
  have q100_0_M1 : id (M1 100 0 = M 100 0) := (show M1 100 0 = M 100 0 by rw [hM1]; exact mu_ne _ _ (by first | decide | omega))
  have q100_1_M1 : id (M1 100 1 = M 100 1) := (show M1 100 1 = M 100 1 by rw [hM1]; exact mu_ne _ _ (by first | decide | omega))
  have q100_2_M1 : id (M1 100 2 = M 100 2) := (show M1 100 2 = M 100 2 by rw [hM1]; exact mu_ne _ _ (by first | decide | omega))
  have q100_3_M1 : id (M1 100 3 = M 100 3) := (show M1 100 3 = M 100 3 by rw [hM1]; exact mu_ne _ _ (by first | decide | omega))
  have q100_49_M1 : id (M1 100 49 = M 100 49) := (show M1 100 49 = M 100 49 by rw [hM1]; exact mu_ne _ _ (by first | decide | omega))
  have q100_50_M1 : id (M1 100 50 = M 100 50) := (show M1 100 50 = M 100 50 by rw [hM1]; exact mu_ne _ _ (by first | decide | omega))
  have q100_51_M1 : id (M1 100 51 = M 100 51) := (show M1 100 51 = M 100 51 by rw [hM1]; exact mu_ne _ _ (by first | decide | omega))
  have q100_52_M1 : id (M1 100 52 = M 100 52) := (show M1 100 52 = M 100 52 by rw [hM1]; exact mu_ne _ _ (by first | decide | omega))
  have q103_0_M1 : id (M1 103 0 = M 103 0) := (show M1 103 0 = M 103 0 by rw [hM1]; exact mu_ne _ _ (by first | decide | omega))
  have q103_1_M1 : id (M1 103 1 = M 103 1) := (show M1 103 1 = M 103 1 by rw [hM1]; exact mu_ne _ _ (by first | decide | omega))
  have q97_12_M1 : (M1 97 12 = M 97 12) := (show M1 97 12 = M 97 12 by rw [hM1]; exact mu_ne _ _ (by first | decide | omega))
  have q99_3_M1 : (M1 99 3 = M 99 3) := (show M1 99 3 = M 99 3 by rw [hM1]; exact mu_ne _ _ (by first | decide | omega))
  have wM1_99_3 : M1 99 3 = M 99 3 := by rw [hM1]; exact mu_ne _ _ (by first | decide | omega)
  have xM1_97_0 : M1 97 0 = 0 := by rw [hM1]; exact mu_at _ _ _ _
  refine g_iload_n (pc' := 6) 1 dX10_wine_5 rfl rfl ?_
  refine g_i2l (pc' := 7) ha dX10_wine_6 rfl ?_
  refine g_lconst (pc' := 8) (v := 0) dX10_wine_7 rfl (by decide) ?_
  refine g_ldc2 (pc' := 11) (v := 100) dX10_wine_8 rfl k_X10_110 ?_
  refine g_callSip (pc' := 14) (As := [vl a, vl 0, vl 100]) (S := []) dX10_wine_11 rfl m_X10_83 w_X10_in (c_X10_in X M1 a ⟨by omega, by omega⟩ 0 (by decide) 100 (by decide)) rfl (by decide) (by decide) rfl (Nat.le_of_ble_eq_true rfl) (fun z3 q2 => ?_)
  refine g_if_eq (pc' := 17) (tgt := 41) ⟨by omega, by omega⟩ dX10_wine_14 rfl rfl (fun c4 => ?_) (fun c4 => ?_)
  · replace q2 := q2.resolve_left (fun h => absurd (c4.symm.trans h.1) (by decide))
    refine g_aload_n (pc' := 42) 0 dX10_wine_41 rfl rfl ?_
    refine g_iconst (pc' := 43) dX10_wine_42 rfl ?_
    refine g_callVi (pc' := 46) (As := [vi (-1)]) (b := 97) (S := []) dX10_wine_43 rfl m_X10_87 w_X10_tell (c_X10_tell X M1 iM1 (-1) (by decide) (by omega)) rfl ⟨_, _, _, rfl, rfl, rfl⟩ (by decide) (by decide) rfl (Nat.le_of_ble_eq_true rfl) (fun z6 M7 q5 => ?_)
    obtain ⟨iM7, fM70, eM7_99_0, eM7_99_1, eM7_99_2, eM7_99_3, eM7_100_0, eM7_100_1, eM7_100_2, eM7_100_3, eM7_100_49, eM7_100_50, eM7_100_51, eM7_100_52, eM7_103_0, eM7_103_1, eM7_97_12, pM7⟩ := q5
    have fM7 : Fr (fun c => 97 ≤ c ∧ c ≤ 116) M M7 := Fr.tr fM1 fM70 fi_23
    have q99_0_M7 : (M7 99 0 = M 99 0) := eM7_99_0.trans q99_0_M1
    have q99_1_M7 : (M7 99 1 = M 99 1) := eM7_99_1.trans q99_1_M1
    have q99_2_M7 : (M7 99 2 = M 99 2) := eM7_99_2.trans q99_2_M1
    have q100_0_M7 : id (M7 100 0 = M 100 0) := eM7_100_0.trans q100_0_M1
    have q100_1_M7 : id (M7 100 1 = M 100 1) := eM7_100_1.trans q100_1_M1
    have q100_2_M7 : id (M7 100 2 = M 100 2) := eM7_100_2.trans q100_2_M1
    have q100_3_M7 : id (M7 100 3 = M 100 3) := eM7_100_3.trans q100_3_M1
    have q100_49_M7 : id (M7 100 49 = M 100 49) := eM7_100_49.trans q100_49_M1
    have q100_50_M7 : id (M7 100 50 = M 100 50) := eM7_100_50.trans q100_50_M1
    have q100_51_M7 : id (M7 100 51 = M 100 51) := eM7_100_51.trans q100_51_M1
    have q100_52_M7 : id (M7 100 52 = M 100 52) := eM7_100_52.trans q100_52_M1
    have q103_0_M7 : id (M7 103 0 = M 103 0) := eM7_103_0.trans q103_0_M1
    have q103_1_M7 : id (M7 103 1 = M 103 1) := eM7_103_1.trans q103_1_M1
    have q97_12_M7 : (M7 97 12 = M 97 12) := eM7_97_12.trans q97_12_M1
    have q99_3_M7 : (M7 99 3 = M 99 3) := eM7_99_3.trans q99_3_M1
    have wM7_99_3 : M7 99 3 = M1 99 3 := eM7_99_3
    clear eM7_100_0 eM7_100_1 eM7_100_2 eM7_100_3 eM7_100_49 eM7_100_50 eM7_100_51 eM7_100_52 eM7_103_0 eM7_103_1
    refine g_ireturn dX10_wine_46 ?_
    exact ⟨iM7, fM7, q99_0_M7, q99_1_M7, q99_2_M7, q100_0_M7, q100_1_M7, q100_2_M7, q100_3_M7, q100_49_M7, q100_50_M7, q100_51_M7, q100_52_M7, q103_0_M7, q103_1_M7, q97_12_M7, by omega⟩
  · replace q2 := q2.resolve_right (fun h => c4 h.1)
    refine g_iload_n (pc' := 18) 2 dX10_wine_17 rfl rfl ?_
    refine g_i2l (pc' := 19) hb dX10_wine_18 rfl ?_
    refine g_lconst (pc' := 20) (v := 0) dX10_wine_19 rfl (by decide) ?_
    refine g_ldc2 (pc' := 23) (v := 99) dX10_wine_20 rfl k_X10_382 ?_
    refine g_callSip (pc' := 26) (As := [vl b, vl 0, vl 99]) (S := []) dX10_wine_23 rfl m_X10_83 w_X10_in (c_X10_in X M1 b ⟨by omega, by omega⟩ 0 (by decide) 99 (by decide)) rfl (by decide) (by decide) rfl (Nat.le_of_ble_eq_true rfl) (fun z9 q8 => ?_)
    refine g_if_eq (pc' := 29) (tgt := 41) ⟨by omega, by omega⟩ dX10_wine_26 rfl rfl (fun c10 => ?_) (fun c10 => ?_)
    · replace q8 := q8.resolve_left (fun h => absurd (c10.symm.trans h.1) (by decide))
      refine g_aload_n (pc' := 42) 0 dX10_wine_41 rfl rfl ?_
      refine g_iconst (pc' := 43) dX10_wine_42 rfl ?_
      refine g_callVi (pc' := 46) (As := [vi (-1)]) (b := 97) (S := []) dX10_wine_43 rfl m_X10_87 w_X10_tell (c_X10_tell X M1 iM1 (-1) (by decide) (by omega)) rfl ⟨_, _, _, rfl, rfl, rfl⟩ (by decide) (by decide) rfl (Nat.le_of_ble_eq_true rfl) (fun z12 M13 q11 => ?_)
      obtain ⟨iM13, fM130, eM13_99_0, eM13_99_1, eM13_99_2, eM13_99_3, eM13_100_0, eM13_100_1, eM13_100_2, eM13_100_3, eM13_100_49, eM13_100_50, eM13_100_51, eM13_100_52, eM13_103_0, eM13_103_1, eM13_97_12, pM13⟩ := q11
      have fM13 : Fr (fun c => 97 ≤ c ∧ c ≤ 116) M M13 := Fr.tr fM1 fM130 fi_23
      have q99_0_M13 : (M13 99 0 = M 99 0) := eM13_99_0.trans q99_0_M1
      have q99_1_M13 : (M13 99 1 = M 99 1) := eM13_99_1.trans q99_1_M1
      have q99_2_M13 : (M13 99 2 = M 99 2) := eM13_99_2.trans q99_2_M1
      have q100_0_M13 : id (M13 100 0 = M 100 0) := eM13_100_0.trans q100_0_M1
      have q100_1_M13 : id (M13 100 1 = M 100 1) := eM13_100_1.trans q100_1_M1
      have q100_2_M13 : id (M13 100 2 = M 100 2) := eM13_100_2.trans q100_2_M1
      have q100_3_M13 : id (M13 100 3 = M 100 3) := eM13_100_3.trans q100_3_M1
      have q100_49_M13 : id (M13 100 49 = M 100 49) := eM13_100_49.trans q100_49_M1
      have q100_50_M13 : id (M13 100 50 = M 100 50) := eM13_100_50.trans q100_50_M1
      have q100_51_M13 : id (M13 100 51 = M 100 51) := eM13_100_51.trans q100_51_M1
      have q100_52_M13 : id (M13 100 52 = M 100 52) := eM13_100_52.trans q100_52_M1
      have q103_0_M13 : id (M13 103 0 = M 103 0) := eM13_103_0.trans q103_0_M1
      have q103_1_M13 : id (M13 103 1 = M 103 1) := eM13_103_1.trans q103_1_M1
      have q97_12_M13 : (M13 97 12 = M 97 12) := eM13_97_12.trans q97_12_M1
      have q99_3_M13 : (M13 99 3 = M 99 3) := eM13_99_3.trans q99_3_M1
      have wM13_99_3 : M13 99 3 = M1 99 3 := eM13_99_3
      clear eM13_100_0 eM13_100_1 eM13_100_2 eM13_100_3 eM13_100_49 eM13_100_50 eM13_100_51 eM13_100_52 eM13_103_0 eM13_103_1
      refine g_ireturn dX10_wine_46 ?_
      exact ⟨iM13, fM13, q99_0_M13, q99_1_M13, q99_2_M13, q100_0_M13, q100_1_M13, q100_2_M13, q100_3_M13, q100_49_M13, q100_50_M13, q100_51_M13, q100_52_M13, q103_0_M13, q103_1_M13, q97_12_M13, by omega⟩
    · replace q8 := q8.resolve_right (fun h => c10 h.1)
      refine g_iload_n (pc' := 30) 3 dX10_wine_29 rfl rfl ?_
      refine g_i2l (pc' := 31) hc dX10_wine_30 rfl ?_
      refine g_lconst (pc' := 32) (v := 0) dX10_wine_31 rfl (by decide) ?_
      refine g_ldc2 (pc' := 35) (v := 20) dX10_wine_32 rfl k_X10_204 ?_
      refine g_callSip (pc' := 38) (As := [vl c, vl 0, vl 20]) (S := []) dX10_wine_35 rfl m_X10_83 w_X10_in (c_X10_in X M1 c ⟨by omega, by omega⟩ 0 (by decide) 20 (by decide)) rfl (by decide) (by decide) rfl (Nat.le_of_ble_eq_true rfl) (fun z15 q14 => ?_)
      refine g_if_ne (pc' := 41) (tgt := 47) ⟨by omega, by omega⟩ dX10_wine_38 rfl rfl (fun c16 => ?_) (fun c16 => ?_)
      · replace q14 := q14.resolve_right (fun h => c16 h.1)
        refine g_aload_n (pc' := 48) 0 dX10_wine_47 rfl rfl ?_
        refine g_getR (pc' := 51) dX10_wine_48 rfl f_X10_13 rfl rfl ?_
        refine g_iconst (pc' := 52) dX10_wine_51 rfl ?_
        refine g_iald (pc' := 53) dX10_wine_52 rfl rfl (by decide) (by decide) (fun v17 ev17 rv17 => ?_)
        have ev17 : v17 = M1 99 3 := ev17
        have bv17 : 0 ≤ v17 ∧ v17 ≤ 6 := by rw [ev17]; exact iM1.1.2.2.2.1
        have av17 : v17 = M 99 3 := ev17.trans q99_3_M1
        refine g_istore (pc' := 55) (L' := [(4, vi v17), (0, vr X 97), (1, vi a), (2, vi b), (3, vi c)]) dX10_wine_53 rfl (by decide) rfl ?_
        refine g_iload (pc' := 57) 0 dX10_wine_55 rfl rfl ?_
        refine g_bipush (pc' := 59) (v := 6) dX10_wine_57 rfl (by decide) ?_
        refine g_ic_ne (pc' := 62) (tgt := 69) rv17 (by decide) dX10_wine_59 rfl rfl (fun c18 => ?_) (fun c18 => ?_)
        · refine g_aload_n (pc' := 70) 1 dX10_wine_69 rfl rfl ?_
          refine g_getR (pc' := 73) dX10_wine_70 rfl f_X10_13 rfl rfl ?_
          refine g_bipush (pc' := 75) (v := 31) dX10_wine_73 rfl (by decide) ?_
          refine g_iconst (pc' := 76) dX10_wine_75 rfl ?_
          refine g_iload (pc' := 78) 0 dX10_wine_76 rfl rfl ?_
          refine g_imul (pc' := 79) dX10_wine_78 rfl ?_
          refine g_iadd (pc' := 80) dX10_wine_79 rfl ?_
          refine g_iload_n (pc' := 81) 2 dX10_wine_80 rfl rfl ?_
          refine g_iast (pc' := 82) dX10_wine_81 rfl rfl (by omega) (by omega) ha (fun M19 hM19 => ?_)
          have iM19 : IM M19 := IM.wrow iM1 hM19 (by unfold okrow; omega)
          have fM19 : Fr (fun c => 97 ≤ c ∧ c ≤ 116) M M19 := Fr.wr fM1 hM19 (by first | decide | omega | (dsimp only; omega))
          have q99_0_M19 : (M19 99 0 = M 99 0) := (show M19 99 0 = M1 99 0 by rw [hM19]; exact mu_ne _ _ (by first | decide | omega)).trans q99_0_M1
          have q99_1_M19 : (M19 99 1 = M 99 1) := (show M19 99 1 = M1 99 1 by rw [hM19]; exact mu_ne _ _ (by first | decide | omega)).trans q99_1_M1
          have q99_2_M19 : (M19 99 2 = M 99 2) := (show M19 99 2 = M1 99 2 by rw [hM19]; exact mu_ne _ _ (by first | decide | omega)).trans q99_2_M1
          have q100_0_M19 : id (M19 100 0 = M 100 0) := (show M19 100 0 = M1 100 0 by rw [hM19]; exact mu_ne _ _ (by first | decide | omega)).trans q100_0_M1
          have q100_1_M19 : id (M19 100 1 = M 100 1) := (show M19 100 1 = M1 100 1 by rw [hM19]; exact mu_ne _ _ (by first | decide | omega)).trans q100_1_M1
          have q100_2_M19 : id (M19 100 2 = M 100 2) := (show M19 100 2 = M1 100 2 by rw [hM19]; exact mu_ne _ _ (by first | decide | omega)).trans q100_2_M1
          have q100_3_M19 : id (M19 100 3 = M 100 3) := (show M19 100 3 = M1 100 3 by rw [hM19]; exact mu_ne _ _ (by first | decide | omega)).trans q100_3_M1
          have q100_49_M19 : id (M19 100 49 = M 100 49) := (show M19 100 49 = M1 100 49 by rw [hM19]; exact mu_ne _ _ (by first | decide | omega)).trans q100_49_M1
          have q100_50_M19 : id (M19 100 50 = M 100 50) := (show M19 100 50 = M1 100 50 by rw [hM19]; exact mu_ne _ _ (by first | decide | omega)).trans q100_50_M1
          have q100_51_M19 : id (M19 100 51 = M 100 51) := (show M19 100 51 = M1 100 51 by rw [hM19]; exact mu_ne _ _ (by first | decide | omega)).trans q100_51_M1
          have q100_52_M19 : id (M19 100 52 = M 100 52) := (show M19 100 52 = M1 100 52 by rw [hM19]; exact mu_ne _ _ (by first | decide | omega)).trans q100_52_M1
          have q103_0_M19 : id (M19 103 0 = M 103 0) := (show M19 103 0 = M1 103 0 by rw [hM19]; exact mu_ne _ _ (by first | decide | omega)).trans q103_0_M1
          have q103_1_M19 : id (M19 103 1 = M 103 1) := (show M19 103 1 = M1 103 1 by rw [hM19]; exact mu_ne _ _ (by first | decide | omega)).trans q103_1_M1
          have q97_12_M19 : (M19 97 12 = M 97 12) := (show M19 97 12 = M1 97 12 by rw [hM19]; exact mu_ne _ _ (by first | decide | omega)).trans q97_12_M1
          have q99_3_M19 : (M19 99 3 = M 99 3) := (show M19 99 3 = M1 99 3 by rw [hM19]; exact mu_ne _ _ (by first | decide | omega)).trans q99_3_M1
          have wM19_99_3 : M19 99 3 = M1 99 3 := by rw [hM19]; exact mu_ne _ _ (by first | decide | omega)
          have xM19_97_0 : M19 97 0 = 0 := (show M19 97 0 = M1 97 0 by rw [hM19]; exact mu_ne _ _ (by first | decide | omega)).trans xM1_97_0
          refine g_aload_n (pc' := 83) 1 dX10_wine_82 rfl rfl ?_
          refine g_getR (pc' := 86) dX10_wine_83 rfl f_X10_13 rfl rfl ?_
          refine g_bipush (pc' := 88) (v := 31) dX10_wine_86 rfl (by decide) ?_
          refine g_iconst (pc' := 89) dX10_wine_88 rfl ?_
          refine g_iload (pc' := 91) 0 dX10_wine_89 rfl rfl ?_
          refine g_imul (pc' := 92) dX10_wine_91 rfl ?_
          refine g_iadd (pc' := 93) dX10_wine_92 rfl ?_
          refine g_iconst (pc' := 94) dX10_wine_93 rfl ?_
          refine g_iadd (pc' := 95) dX10_wine_94 rfl ?_
          refine g_iload_n (pc' := 96) 3 dX10_wine_95 rfl rfl ?_
          refine g_iast (pc' := 97) dX10_wine_96 rfl rfl (by omega) (by omega) hb (fun M20 hM20 => ?_)
          have iM20 : IM M20 := IM.wrow iM19 hM20 (by unfold okrow; omega)
          have fM20 : Fr (fun c => 97 ≤ c ∧ c ≤ 116) M M20 := Fr.wr fM19 hM20 (by first | decide | omega | (dsimp only; omega))
          have q99_0_M20 : (M20 99 0 = M 99 0) := (show M20 99 0 = M19 99 0 by rw [hM20]; exact mu_ne _ _ (by first | decide | omega)).trans q99_0_M19
          have q99_1_M20 : (M20 99 1 = M 99 1) := (show M20 99 1 = M19 99 1 by rw [hM20]; exact mu_ne _ _ (by first | decide | omega)).trans q99_1_M19
          have q99_2_M20 : (M20 99 2 = M 99 2) := (show M20 99 2 = M19 99 2 by rw [hM20]; exact mu_ne _ _ (by first | decide | omega)).trans q99_2_M19
          have q100_0_M20 : id (M20 100 0 = M 100 0) := (show M20 100 0 = M19 100 0 by rw [hM20]; exact mu_ne _ _ (by first | decide | omega)).trans q100_0_M19
          have q100_1_M20 : id (M20 100 1 = M 100 1) := (show M20 100 1 = M19 100 1 by rw [hM20]; exact mu_ne _ _ (by first | decide | omega)).trans q100_1_M19
          have q100_2_M20 : id (M20 100 2 = M 100 2) := (show M20 100 2 = M19 100 2 by rw [hM20]; exact mu_ne _ _ (by first | decide | omega)).trans q100_2_M19
          have q100_3_M20 : id (M20 100 3 = M 100 3) := (show M20 100 3 = M19 100 3 by rw [hM20]; exact mu_ne _ _ (by first | decide | omega)).trans q100_3_M19
          have q100_49_M20 : id (M20 100 49 = M 100 49) := (show M20 100 49 = M19 100 49 by rw [hM20]; exact mu_ne _ _ (by first | decide | omega)).trans q100_49_M19
          have q100_50_M20 : id (M20 100 50 = M 100 50) := (show M20 100 50 = M19 100 50 by rw [hM20]; exact mu_ne _ _ (by first | decide | omega)).trans q100_50_M19
          have q100_51_M20 : id (M20 100 51 = M 100 51) := (show M20 100 51 = M19 100 51 by rw [hM20]; exact mu_ne _ _ (by first | decide | omega)).trans q100_51_M19
          have q100_52_M20 : id (M20 100 52 = M 100 52) := (show M20 100 52 = M19 100 52 by rw [hM20]; exact mu_ne _ _ (by first | decide | omega)).trans q100_52_M19
          have q103_0_M20 : id (M20 103 0 = M 103 0) := (show M20 103 0 = M19 103 0 by rw [hM20]; exact mu_ne _ _ (by first | decide | omega)).trans q103_0_M19
          have q103_1_M20 : id (M20 103 1 = M 103 1) := (show M20 103 1 = M19 103 1 by rw [hM20]; exact mu_ne _ _ (by first | decide | omega)).trans q103_1_M19
          have q97_12_M20 : (M20 97 12 = M 97 12) := (show M20 97 12 = M19 97 12 by rw [hM20]; exact mu_ne _ _ (by first | decide | omega)).trans q97_12_M19
          have q99_3_M20 : (M20 99 3 = M 99 3) := (show M20 99 3 = M19 99 3 by rw [hM20]; exact mu_ne _ _ (by first | decide | omega)).trans q99_3_M19
          have wM20_99_3 : M20 99 3 = M19 99 3 := by rw [hM20]; exact mu_ne _ _ (by first | decide | omega)
          have xM20_97_0 : M20 97 0 = 0 := (show M20 97 0 = M19 97 0 by rw [hM20]; exact mu_ne _ _ (by first | decide | omega)).trans xM19_97_0
          refine g_aload_n (pc' := 98) 1 dX10_wine_97 rfl rfl ?_
          refine g_getR (pc' := 101) dX10_wine_98 rfl f_X10_13 rfl rfl ?_
          refine g_bipush (pc' := 103) (v := 31) dX10_wine_101 rfl (by decide) ?_
          refine g_iconst (pc' := 104) dX10_wine_103 rfl ?_
          refine g_iload (pc' := 106) 0 dX10_wine_104 rfl rfl ?_
          refine g_imul (pc' := 107) dX10_wine_106 rfl ?_
          refine g_iadd (pc' := 108) dX10_wine_107 rfl ?_
          refine g_iconst (pc' := 109) dX10_wine_108 rfl ?_
          refine g_iadd (pc' := 110) dX10_wine_109 rfl ?_
          refine g_iload_n (pc' := 111) 4 dX10_wine_110 rfl rfl ?_
          refine g_iast (pc' := 112) dX10_wine_111 rfl rfl (by omega) (by omega) hc (fun M21 hM21 => ?_)
          have iM21 : IM M21 := IM.wrow iM20 hM21 (by unfold okrow; omega)
          have fM21 : Fr (fun c => 97 ≤ c ∧ c ≤ 116) M M21 := Fr.wr fM20 hM21 (by first | decide | omega | (dsimp only; omega))
          have q99_0_M21 : (M21 99 0 = M 99 0) := (show M21 99 0 = M20 99 0 by rw [hM21]; exact mu_ne _ _ (by first | decide | omega)).trans q99_0_M20
          have q99_1_M21 : (M21 99 1 = M 99 1) := (show M21 99 1 = M20 99 1 by rw [hM21]; exact mu_ne _ _ (by first | decide | omega)).trans q99_1_M20
          have q99_2_M21 : (M21 99 2 = M 99 2) := (show M21 99 2 = M20 99 2 by rw [hM21]; exact mu_ne _ _ (by first | decide | omega)).trans q99_2_M20
          have q100_0_M21 : id (M21 100 0 = M 100 0) := (show M21 100 0 = M20 100 0 by rw [hM21]; exact mu_ne _ _ (by first | decide | omega)).trans q100_0_M20
          have q100_1_M21 : id (M21 100 1 = M 100 1) := (show M21 100 1 = M20 100 1 by rw [hM21]; exact mu_ne _ _ (by first | decide | omega)).trans q100_1_M20
          have q100_2_M21 : id (M21 100 2 = M 100 2) := (show M21 100 2 = M20 100 2 by rw [hM21]; exact mu_ne _ _ (by first | decide | omega)).trans q100_2_M20
          have q100_3_M21 : id (M21 100 3 = M 100 3) := (show M21 100 3 = M20 100 3 by rw [hM21]; exact mu_ne _ _ (by first | decide | omega)).trans q100_3_M20
          have q100_49_M21 : id (M21 100 49 = M 100 49) := (show M21 100 49 = M20 100 49 by rw [hM21]; exact mu_ne _ _ (by first | decide | omega)).trans q100_49_M20
          have q100_50_M21 : id (M21 100 50 = M 100 50) := (show M21 100 50 = M20 100 50 by rw [hM21]; exact mu_ne _ _ (by first | decide | omega)).trans q100_50_M20
          have q100_51_M21 : id (M21 100 51 = M 100 51) := (show M21 100 51 = M20 100 51 by rw [hM21]; exact mu_ne _ _ (by first | decide | omega)).trans q100_51_M20
          have q100_52_M21 : id (M21 100 52 = M 100 52) := (show M21 100 52 = M20 100 52 by rw [hM21]; exact mu_ne _ _ (by first | decide | omega)).trans q100_52_M20
          have q103_0_M21 : id (M21 103 0 = M 103 0) := (show M21 103 0 = M20 103 0 by rw [hM21]; exact mu_ne _ _ (by first | decide | omega)).trans q103_0_M20
          have q103_1_M21 : id (M21 103 1 = M 103 1) := (show M21 103 1 = M20 103 1 by rw [hM21]; exact mu_ne _ _ (by first | decide | omega)).trans q103_1_M20
          have q97_12_M21 : (M21 97 12 = M 97 12) := (show M21 97 12 = M20 97 12 by rw [hM21]; exact mu_ne _ _ (by first | decide | omega)).trans q97_12_M20
          have q99_3_M21 : (M21 99 3 = M 99 3) := (show M21 99 3 = M20 99 3 by rw [hM21]; exact mu_ne _ _ (by first | decide | omega)).trans q99_3_M20
          have wM21_99_3 : M21 99 3 = M20 99 3 := by rw [hM21]; exact mu_ne _ _ (by first | decide | omega)
          have xM21_97_0 : M21 97 0 = 0 := (show M21 97 0 = M20 97 0 by rw [hM21]; exact mu_ne _ _ (by first | decide | omega)).trans xM20_97_0
          refine g_aload_n (pc' := 113) 1 dX10_wine_112 rfl rfl ?_
          refine g_getR (pc' := 116) dX10_wine_113 rfl f_X10_13 rfl rfl ?_
          refine g_iconst (pc' := 117) dX10_wine_116 rfl ?_
          refine g_dup2_11 (pc' := 118) dX10_wine_117 rfl rfl rfl ?_
          refine g_iald (pc' := 119) dX10_wine_118 rfl rfl (by decide) (by decide) (fun v22 ev22 rv22 => ?_)
          have ev22 : v22 = M21 99 3 := ev22
          have bv22 : 0 ≤ v22 ∧ v22 ≤ 6 := by rw [ev22]; exact iM21.1.2.2.2.1
          have av22 : v22 = M 99 3 := ev22.trans q99_3_M21
          obtain rfl : v17 = v22 := av17.trans av22.symm
          refine g_iconst (pc' := 120) dX10_wine_119 rfl ?_
          refine g_iadd (pc' := 121) dX10_wine_120 rfl ?_
          refine g_iast (pc' := 122) dX10_wine_121 rfl rfl (by decide) (by decide) ⟨by omega, by omega⟩ (fun M23 hM23 => ?_)
          have hM23 : M23 = mu M21 99 3 (v17 + 1) := hM23
          have iM23 : IM M23 := IM.wrow iM21 hM23 (by unfold okrow; omega)
          have fM23 : Fr (fun c => 97 ≤ c ∧ c ≤ 116) M M23 := Fr.wr fM21 hM23 (by first | decide | omega | (dsimp only; omega))
          have q99_0_M23 : (M23 99 0 = M 99 0) := (show M23 99 0 = M21 99 0 by rw [hM23]; exact mu_ne _ _ (by first | decide | omega)).trans q99_0_M21
          have q99_1_M23 : (M23 99 1 = M 99 1) := (show M23 99 1 = M21 99 1 by rw [hM23]; exact mu_ne _ _ (by first | decide | omega)).trans q99_1_M21
          have q99_2_M23 : (M23 99 2 = M 99 2) := (show M23 99 2 = M21 99 2 by rw [hM23]; exact mu_ne _ _ (by first | decide | omega)).trans q99_2_M21
          have q100_0_M23 : id (M23 100 0 = M 100 0) := (show M23 100 0 = M21 100 0 by rw [hM23]; exact mu_ne _ _ (by first | decide | omega)).trans q100_0_M21
          have q100_1_M23 : id (M23 100 1 = M 100 1) := (show M23 100 1 = M21 100 1 by rw [hM23]; exact mu_ne _ _ (by first | decide | omega)).trans q100_1_M21
          have q100_2_M23 : id (M23 100 2 = M 100 2) := (show M23 100 2 = M21 100 2 by rw [hM23]; exact mu_ne _ _ (by first | decide | omega)).trans q100_2_M21
          have q100_3_M23 : id (M23 100 3 = M 100 3) := (show M23 100 3 = M21 100 3 by rw [hM23]; exact mu_ne _ _ (by first | decide | omega)).trans q100_3_M21
          have q100_49_M23 : id (M23 100 49 = M 100 49) := (show M23 100 49 = M21 100 49 by rw [hM23]; exact mu_ne _ _ (by first | decide | omega)).trans q100_49_M21
          have q100_50_M23 : id (M23 100 50 = M 100 50) := (show M23 100 50 = M21 100 50 by rw [hM23]; exact mu_ne _ _ (by first | decide | omega)).trans q100_50_M21
          have q100_51_M23 : id (M23 100 51 = M 100 51) := (show M23 100 51 = M21 100 51 by rw [hM23]; exact mu_ne _ _ (by first | decide | omega)).trans q100_51_M21
          have q100_52_M23 : id (M23 100 52 = M 100 52) := (show M23 100 52 = M21 100 52 by rw [hM23]; exact mu_ne _ _ (by first | decide | omega)).trans q100_52_M21
          have q103_0_M23 : id (M23 103 0 = M 103 0) := (show M23 103 0 = M21 103 0 by rw [hM23]; exact mu_ne _ _ (by first | decide | omega)).trans q103_0_M21
          have q103_1_M23 : id (M23 103 1 = M 103 1) := (show M23 103 1 = M21 103 1 by rw [hM23]; exact mu_ne _ _ (by first | decide | omega)).trans q103_1_M21
          have q97_12_M23 : (M23 97 12 = M 97 12) := (show M23 97 12 = M21 97 12 by rw [hM23]; exact mu_ne _ _ (by first | decide | omega)).trans q97_12_M21
          have xM23_97_0 : M23 97 0 = 0 := (show M23 97 0 = M21 97 0 by rw [hM23]; exact mu_ne _ _ (by first | decide | omega)).trans xM21_97_0
          have xM23_99_3 : M23 99 3 = v17 + 1 := by rw [hM23]; exact mu_at _ _ _ _
          refine g_aload_n (pc' := 123) 1 dX10_wine_122 rfl rfl ?_
          refine g_iload (pc' := 125) 0 dX10_wine_123 rfl rfl ?_
          refine g_callVi (pc' := 128) (As := [vi v17]) (b := 97) (S := []) dX10_wine_125 rfl m_X10_87 w_X10_tell (c_X10_tell X M23 iM23 v17 rv17 (by omega)) rfl ⟨_, _, _, rfl, rfl, rfl⟩ (by decide) (by decide) rfl (Nat.le_of_ble_eq_true rfl) (fun z25 M26 q24 => ?_)
          obtain ⟨iM26, fM260, eM26_99_0, eM26_99_1, eM26_99_2, eM26_99_3, eM26_100_0, eM26_100_1, eM26_100_2, eM26_100_3, eM26_100_49, eM26_100_50, eM26_100_51, eM26_100_52, eM26_103_0, eM26_103_1, eM26_97_12, pM26⟩ := q24
          have fM26 : Fr (fun c => 97 ≤ c ∧ c ≤ 116) M M26 := Fr.tr fM23 fM260 fi_23
          have q99_0_M26 : (M26 99 0 = M 99 0) := eM26_99_0.trans q99_0_M23
          have q99_1_M26 : (M26 99 1 = M 99 1) := eM26_99_1.trans q99_1_M23
          have q99_2_M26 : (M26 99 2 = M 99 2) := eM26_99_2.trans q99_2_M23
          have q100_0_M26 : id (M26 100 0 = M 100 0) := eM26_100_0.trans q100_0_M23
          have q100_1_M26 : id (M26 100 1 = M 100 1) := eM26_100_1.trans q100_1_M23
          have q100_2_M26 : id (M26 100 2 = M 100 2) := eM26_100_2.trans q100_2_M23
          have q100_3_M26 : id (M26 100 3 = M 100 3) := eM26_100_3.trans q100_3_M23
          have q100_49_M26 : id (M26 100 49 = M 100 49) := eM26_100_49.trans q100_49_M23
          have q100_50_M26 : id (M26 100 50 = M 100 50) := eM26_100_50.trans q100_50_M23
          have q100_51_M26 : id (M26 100 51 = M 100 51) := eM26_100_51.trans q100_51_M23
          have q100_52_M26 : id (M26 100 52 = M 100 52) := eM26_100_52.trans q100_52_M23
          have q103_0_M26 : id (M26 103 0 = M 103 0) := eM26_103_0.trans q103_0_M23
          have q103_1_M26 : id (M26 103 1 = M 103 1) := eM26_103_1.trans q103_1_M23
          have q97_12_M26 : (M26 97 12 = M 97 12) := eM26_97_12.trans q97_12_M23
          have wM26_99_3 : M26 99 3 = M23 99 3 := eM26_99_3
          have xM26_99_3 : M26 99 3 = v17 + 1 := eM26_99_3.trans xM23_99_3
          clear eM26_100_0 eM26_100_1 eM26_100_2 eM26_100_3 eM26_100_49 eM26_100_50 eM26_100_51 eM26_100_52 eM26_103_0 eM26_103_1
          refine g_ireturn dX10_wine_128 ?_
          exact ⟨iM26, fM26, q99_0_M26, q99_1_M26, q99_2_M26, q100_0_M26, q100_1_M26, q100_2_M26, q100_3_M26, q100_49_M26, q100_50_M26, q100_51_M26, q100_52_M26, q103_0_M26, q103_1_M26, q97_12_M26, by omega⟩
        · refine g_aload_n (pc' := 63) 1 dX10_wine_62 rfl rfl ?_
          refine g_bipush (pc' := 65) (v := (-5)) dX10_wine_63 rfl (by decide) ?_
          refine g_callVi (pc' := 68) (As := [vi (-5)]) (b := 97) (S := []) dX10_wine_65 rfl m_X10_87 w_X10_tell (c_X10_tell X M1 iM1 (-5) (by decide) (by omega)) rfl ⟨_, _, _, rfl, rfl, rfl⟩ (by decide) (by decide) rfl (Nat.le_of_ble_eq_true rfl) (fun z28 M29 q27 => ?_)
          obtain ⟨iM29, fM290, eM29_99_0, eM29_99_1, eM29_99_2, eM29_99_3, eM29_100_0, eM29_100_1, eM29_100_2, eM29_100_3, eM29_100_49, eM29_100_50, eM29_100_51, eM29_100_52, eM29_103_0, eM29_103_1, eM29_97_12, pM29⟩ := q27
          have fM29 : Fr (fun c => 97 ≤ c ∧ c ≤ 116) M M29 := Fr.tr fM1 fM290 fi_23
          have q99_0_M29 : (M29 99 0 = M 99 0) := eM29_99_0.trans q99_0_M1
          have q99_1_M29 : (M29 99 1 = M 99 1) := eM29_99_1.trans q99_1_M1
          have q99_2_M29 : (M29 99 2 = M 99 2) := eM29_99_2.trans q99_2_M1
          have q100_0_M29 : id (M29 100 0 = M 100 0) := eM29_100_0.trans q100_0_M1
          have q100_1_M29 : id (M29 100 1 = M 100 1) := eM29_100_1.trans q100_1_M1
          have q100_2_M29 : id (M29 100 2 = M 100 2) := eM29_100_2.trans q100_2_M1
          have q100_3_M29 : id (M29 100 3 = M 100 3) := eM29_100_3.trans q100_3_M1
          have q100_49_M29 : id (M29 100 49 = M 100 49) := eM29_100_49.trans q100_49_M1
          have q100_50_M29 : id (M29 100 50 = M 100 50) := eM29_100_50.trans q100_50_M1
          have q100_51_M29 : id (M29 100 51 = M 100 51) := eM29_100_51.trans q100_51_M1
          have q100_52_M29 : id (M29 100 52 = M 100 52) := eM29_100_52.trans q100_52_M1
          have q103_0_M29 : id (M29 103 0 = M 103 0) := eM29_103_0.trans q103_0_M1
          have q103_1_M29 : id (M29 103 1 = M 103 1) := eM29_103_1.trans q103_1_M1
          have q97_12_M29 : (M29 97 12 = M 97 12) := eM29_97_12.trans q97_12_M1
          have q99_3_M29 : (M29 99 3 = M 99 3) := eM29_99_3.trans q99_3_M1
          have wM29_99_3 : M29 99 3 = M1 99 3 := eM29_99_3
          clear eM29_100_0 eM29_100_1 eM29_100_2 eM29_100_3 eM29_100_49 eM29_100_50 eM29_100_51 eM29_100_52 eM29_103_0 eM29_103_1
          refine g_ireturn dX10_wine_68 ?_
          exact ⟨iM29, fM29, q99_0_M29, q99_1_M29, q99_2_M29, q100_0_M29, q100_1_M29, q100_2_M29, q100_3_M29, q100_49_M29, q100_50_M29, q100_51_M29, q100_52_M29, q103_0_M29, q103_1_M29, q97_12_M29, by omega⟩
      · replace q14 := q14.resolve_left (fun h => absurd (c16.symm.trans h.1) (by decide))
        refine g_aload_n (pc' := 42) 0 dX10_wine_41 rfl rfl ?_
        refine g_iconst (pc' := 43) dX10_wine_42 rfl ?_
        refine g_callVi (pc' := 46) (As := [vi (-1)]) (b := 97) (S := []) dX10_wine_43 rfl m_X10_87 w_X10_tell (c_X10_tell X M1 iM1 (-1) (by decide) (by omega)) rfl ⟨_, _, _, rfl, rfl, rfl⟩ (by decide) (by decide) rfl (Nat.le_of_ble_eq_true rfl) (fun z31 M32 q30 => ?_)
        obtain ⟨iM32, fM320, eM32_99_0, eM32_99_1, eM32_99_2, eM32_99_3, eM32_100_0, eM32_100_1, eM32_100_2, eM32_100_3, eM32_100_49, eM32_100_50, eM32_100_51, eM32_100_52, eM32_103_0, eM32_103_1, eM32_97_12, pM32⟩ := q30
        have fM32 : Fr (fun c => 97 ≤ c ∧ c ≤ 116) M M32 := Fr.tr fM1 fM320 fi_23
        have q99_0_M32 : (M32 99 0 = M 99 0) := eM32_99_0.trans q99_0_M1
        have q99_1_M32 : (M32 99 1 = M 99 1) := eM32_99_1.trans q99_1_M1
        have q99_2_M32 : (M32 99 2 = M 99 2) := eM32_99_2.trans q99_2_M1
        have q100_0_M32 : id (M32 100 0 = M 100 0) := eM32_100_0.trans q100_0_M1
        have q100_1_M32 : id (M32 100 1 = M 100 1) := eM32_100_1.trans q100_1_M1
        have q100_2_M32 : id (M32 100 2 = M 100 2) := eM32_100_2.trans q100_2_M1
        have q100_3_M32 : id (M32 100 3 = M 100 3) := eM32_100_3.trans q100_3_M1
        have q100_49_M32 : id (M32 100 49 = M 100 49) := eM32_100_49.trans q100_49_M1
        have q100_50_M32 : id (M32 100 50 = M 100 50) := eM32_100_50.trans q100_50_M1
        have q100_51_M32 : id (M32 100 51 = M 100 51) := eM32_100_51.trans q100_51_M1
        have q100_52_M32 : id (M32 100 52 = M 100 52) := eM32_100_52.trans q100_52_M1
        have q103_0_M32 : id (M32 103 0 = M 103 0) := eM32_103_0.trans q103_0_M1
        have q103_1_M32 : id (M32 103 1 = M 103 1) := eM32_103_1.trans q103_1_M1
        have q97_12_M32 : (M32 97 12 = M 97 12) := eM32_97_12.trans q97_12_M1
        have q99_3_M32 : (M32 99 3 = M 99 3) := eM32_99_3.trans q99_3_M1
        have wM32_99_3 : M32 99 3 = M1 99 3 := eM32_99_3
        clear eM32_100_0 eM32_100_1 eM32_100_2 eM32_100_3 eM32_100_49 eM32_100_50 eM32_100_51 eM32_100_52 eM32_103_0 eM32_103_1
        refine g_ireturn dX10_wine_46 ?_
        exact ⟨iM32, fM32, q99_0_M32, q99_1_M32, q99_2_M32, q100_0_M32, q100_1_M32, q100_2_M32, q100_3_M32, q100_49_M32, q100_50_M32, q100_51_M32, q100_52_M32, q103_0_M32, q103_1_M32, q97_12_M32, by omega⟩
set_option maxHeartbeats 4000000 in
set_option maxRecDepth 100000 in
theorem l_X10_drink_37 (X : Cx) (M : Mm) (hi : IM M) (a : Int) (ha : inI a) : ∀ (kk : Nat) (k : Int) (M1 : Mm) (ic1 : IM M1) (fr1 : Fr (fun c => 97 ≤ c ∧ c ≤ 116) M M1) (q99_0 : (M1 99 0 = M 99 0)) (q99_1 : (M1 99 1 = M 99 1)) (q99_2 : (M1 99 2 = M 99 2)) (q100_0 : id (M1 100 0 = M 100 0)) (q100_1 : id (M1 100 1 = M 100 1)) (q100_2 : id (M1 100 2 = M 100 2)) (q100_3 : id (M1 100 3 = M 100 3)) (q100_49 : id (M1 100 49 = M 100 49)) (q100_50 : id (M1 100 50 = M 100 50)) (q100_51 : id (M1 100 51 = M 100 51)) (q100_52 : id (M1 100 52 = M 100 52)) (q103_0 : id (M1 103 0 = M 103 0)) (q103_1 : id (M1 103 1 = M 103 1)) (q97_12 : (M1 97 12 = M 97 12)) (q99_3 : (M1 99 3 = M 99 3)) (a0 : 0 ≤ a ∧ a < M 99 3) (h0 : 31 ≤ k) (h1 : k ≤ 46), (46 - k).toNat = kk → G X 12 RX10 cX10_drink 3 (some .int) (Qi (fun r M1 => IM M1 ∧ Fr (fun c => 97 ≤ c ∧ c ≤ 116) M M1 ∧ M1 99 0 = M 99 0 ∧ M1 99 1 = M 99 1 ∧ M1 99 2 = M 99 2 ∧ M1 100 0 = M 100 0 ∧ M1 100 1 = M 100 1 ∧ M1 100 2 = M 100 2 ∧ M1 100 3 = M 100 3 ∧ M1 100 49 = M 100 49 ∧ M1 100 50 = M 100 50 ∧ M1 100 51 = M 100 51 ∧ M1 100 52 = M 100 52 ∧ M1 103 0 = M 103 0 ∧ M1 103 1 = M 103 1 ∧ M1 97 12 = M 97 12 ∧ (((a < 0 ∨ M 99 3 ≤ a) → r = -2 ∧ M1 99 3 = M 99 3) ∧ (0 ≤ a → a < M 99 3 → r = M 99 3 - 1 ∧ M1 99 3 = M 99 3 - 1)))) 37 [(2, vi k), (0, vr X 97), (1, vi a)] [] M1 := by
  intro kk
  induction kk using Nat.strongRecOn with
  | ind kk ih =>
    intro k M1 ic1 fr1 q99_0 q99_1 q99_2 q100_0 q100_1 q100_2 q100_3 q100_49 q100_50 q100_51 q100_52 q103_0 q103_1 q97_12 q99_3 a0 h0 h1 hmes
    have p0 := hi.1.1
    have p1 := hi.1.2.1
    have p2 := hi.1.2.2.1
    have p3 := hi.1.2.2.2.1
    have p12 := hi.2.2.2.1
    refine g_iload_n (pc' := 38) 0 dX10_drink_37 rfl rfl ?_
    refine g_bipush (pc' := 40) (v := 46) dX10_drink_38 rfl (by decide) ?_
    refine g_ic_ge (pc' := 43) (tgt := 63) ⟨by omega, by omega⟩ (by decide) dX10_drink_40 rfl rfl (fun c1 => ?_) (fun c1 => ?_)
    · refine g_aload_n (pc' := 64) 1 dX10_drink_63 rfl rfl ?_
      refine g_getR (pc' := 67) dX10_drink_64 rfl f_X10_13 rfl rfl ?_
      refine g_iconst (pc' := 68) dX10_drink_67 rfl ?_
      refine g_dup2_11 (pc' := 69) dX10_drink_68 rfl rfl rfl ?_
      refine g_iald (pc' := 70) dX10_drink_69 rfl rfl (by decide) (by decide) (fun v2 ev2 rv2 => ?_)
      have ev2 : v2 = M1 99 3 := ev2
      have bv2 : 0 ≤ v2 ∧ v2 ≤ 6 := by rw [ev2]; exact ic1.1.2.2.2.1
      have av2 : v2 = M 99 3 := ev2.trans q99_3
      refine g_iconst (pc' := 71) dX10_drink_70 rfl ?_
      refine g_isub (pc' := 72) dX10_drink_71 rfl ?_
      refine g_iast (pc' := 73) dX10_drink_72 rfl rfl (by decide) (by decide) ⟨by omega, by omega⟩ (fun M3 hM3 => ?_)
      have hM3 : M3 = mu M1 99 3 (v2 - 1) := hM3
      have iM3 : IM M3 := IM.wrow ic1 hM3 (by unfold okrow; omega)
      have fM3 : Fr (fun c => 97 ≤ c ∧ c ≤ 116) M M3 := Fr.wr fr1 hM3 (by first | decide | omega | (dsimp only; omega))
      have q99_0_M3 : (M3 99 0 = M 99 0) := (show M3 99 0 = M1 99 0 by rw [hM3]; exact mu_ne _ _ (by first | decide | omega)).trans q99_0
      have q99_1_M3 : (M3 99 1 = M 99 1) := (show M3 99 1 = M1 99 1 by rw [hM3]; exact mu_ne _ _ (by first | decide | omega)).trans q99_1
      have q99_2_M3 : (M3 99 2 = M 99 2) := (show M3 99 2 = M1 99 2 by rw [hM3]; exact mu_ne _ _ (by first | decide | omega)).trans q99_2
      have q100_0_M3 : id (M3 100 0 = M 100 0) := (show M3 100 0 = M1 100 0 by rw [hM3]; exact mu_ne _ _ (by first | decide | omega)).trans q100_0
      have q100_1_M3 : id (M3 100 1 = M 100 1) := (show M3 100 1 = M1 100 1 by rw [hM3]; exact mu_ne _ _ (by first | decide | omega)).trans q100_1
      have q100_2_M3 : id (M3 100 2 = M 100 2) := (show M3 100 2 = M1 100 2 by rw [hM3]; exact mu_ne _ _ (by first | decide | omega)).trans q100_2
      have q100_3_M3 : id (M3 100 3 = M 100 3) := (show M3 100 3 = M1 100 3 by rw [hM3]; exact mu_ne _ _ (by first | decide | omega)).trans q100_3
      have q100_49_M3 : id (M3 100 49 = M 100 49) := (show M3 100 49 = M1 100 49 by rw [hM3]; exact mu_ne _ _ (by first | decide | omega)).trans q100_49
      have q100_50_M3 : id (M3 100 50 = M 100 50) := (show M3 100 50 = M1 100 50 by rw [hM3]; exact mu_ne _ _ (by first | decide | omega)).trans q100_50
      have q100_51_M3 : id (M3 100 51 = M 100 51) := (show M3 100 51 = M1 100 51 by rw [hM3]; exact mu_ne _ _ (by first | decide | omega)).trans q100_51
      have q100_52_M3 : id (M3 100 52 = M 100 52) := (show M3 100 52 = M1 100 52 by rw [hM3]; exact mu_ne _ _ (by first | decide | omega)).trans q100_52
      have q103_0_M3 : id (M3 103 0 = M 103 0) := (show M3 103 0 = M1 103 0 by rw [hM3]; exact mu_ne _ _ (by first | decide | omega)).trans q103_0
      have q103_1_M3 : id (M3 103 1 = M 103 1) := (show M3 103 1 = M1 103 1 by rw [hM3]; exact mu_ne _ _ (by first | decide | omega)).trans q103_1
      have q97_12_M3 : (M3 97 12 = M 97 12) := (show M3 97 12 = M1 97 12 by rw [hM3]; exact mu_ne _ _ (by first | decide | omega)).trans q97_12
      have xM3_99_3 : M3 99 3 = v2 - 1 := by rw [hM3]; exact mu_at _ _ _ _
      refine g_aload_n (pc' := 74) 1 dX10_drink_73 rfl rfl ?_
      refine g_aload_n (pc' := 75) 1 dX10_drink_74 rfl rfl ?_
      refine g_getR (pc' := 78) dX10_drink_75 rfl f_X10_13 rfl rfl ?_
      refine g_iconst (pc' := 79) dX10_drink_78 rfl ?_
      refine g_iald (pc' := 80) dX10_drink_79 rfl rfl (by decide) (by decide) (fun v4 ev4 rv4 => ?_)
      have ev4 : v4 = M3 99 3 := ev4
      have bv4 : 0 ≤ v4 ∧ v4 ≤ 6 := by rw [ev4]; exact iM3.1.2.2.2.1
      have yv4 : v4 = v2 - 1 := ev4.trans xM3_99_3
      refine g_callVi (pc' := 83) (As := [vi v4]) (b := 97) (S := []) dX10_drink_80 rfl m_X10_87 w_X10_tell (c_X10_tell X M3 iM3 v4 rv4 (by omega)) rfl ⟨_, _, _, rfl, rfl, rfl⟩ (by decide) (by decide) rfl (Nat.le_of_ble_eq_true rfl) (fun z6 M7 q5 => ?_)
      obtain ⟨iM7, fM70, eM7_99_0, eM7_99_1, eM7_99_2, eM7_99_3, eM7_100_0, eM7_100_1, eM7_100_2, eM7_100_3, eM7_100_49, eM7_100_50, eM7_100_51, eM7_100_52, eM7_103_0, eM7_103_1, eM7_97_12, pM7⟩ := q5
      have fM7 : Fr (fun c => 97 ≤ c ∧ c ≤ 116) M M7 := Fr.tr fM3 fM70 fi_23
      have q99_0_M7 : (M7 99 0 = M 99 0) := eM7_99_0.trans q99_0_M3
      have q99_1_M7 : (M7 99 1 = M 99 1) := eM7_99_1.trans q99_1_M3
      have q99_2_M7 : (M7 99 2 = M 99 2) := eM7_99_2.trans q99_2_M3
      have q100_0_M7 : id (M7 100 0 = M 100 0) := eM7_100_0.trans q100_0_M3
      have q100_1_M7 : id (M7 100 1 = M 100 1) := eM7_100_1.trans q100_1_M3
      have q100_2_M7 : id (M7 100 2 = M 100 2) := eM7_100_2.trans q100_2_M3
      have q100_3_M7 : id (M7 100 3 = M 100 3) := eM7_100_3.trans q100_3_M3
      have q100_49_M7 : id (M7 100 49 = M 100 49) := eM7_100_49.trans q100_49_M3
      have q100_50_M7 : id (M7 100 50 = M 100 50) := eM7_100_50.trans q100_50_M3
      have q100_51_M7 : id (M7 100 51 = M 100 51) := eM7_100_51.trans q100_51_M3
      have q100_52_M7 : id (M7 100 52 = M 100 52) := eM7_100_52.trans q100_52_M3
      have q103_0_M7 : id (M7 103 0 = M 103 0) := eM7_103_0.trans q103_0_M3
      have q103_1_M7 : id (M7 103 1 = M 103 1) := eM7_103_1.trans q103_1_M3
      have q97_12_M7 : (M7 97 12 = M 97 12) := eM7_97_12.trans q97_12_M3
      have wM7_99_3 : M7 99 3 = M3 99 3 := eM7_99_3
      have xM7_99_3 : M7 99 3 = v2 - 1 := eM7_99_3.trans xM3_99_3
      clear eM7_100_0 eM7_100_1 eM7_100_2 eM7_100_3 eM7_100_49 eM7_100_50 eM7_100_51 eM7_100_52 eM7_103_0 eM7_103_1
      refine g_ireturn dX10_drink_83 ?_
      exact ⟨iM7, fM7, q99_0_M7, q99_1_M7, q99_2_M7, q100_0_M7, q100_1_M7, q100_2_M7, q100_3_M7, q100_49_M7, q100_50_M7, q100_51_M7, q100_52_M7, q103_0_M7, q103_1_M7, q97_12_M7, by omega⟩
    · refine g_aload_n (pc' := 44) 1 dX10_drink_43 rfl rfl ?_
      refine g_getR (pc' := 47) dX10_drink_44 rfl f_X10_13 rfl rfl ?_
      refine g_iload_n (pc' := 48) 0 dX10_drink_47 rfl rfl ?_
      refine g_aload_n (pc' := 49) 1 dX10_drink_48 rfl rfl ?_
      refine g_getR (pc' := 52) dX10_drink_49 rfl f_X10_13 rfl rfl ?_
      refine g_iload_n (pc' := 53) 0 dX10_drink_52 rfl rfl ?_
      refine g_iconst (pc' := 54) dX10_drink_53 rfl ?_
      refine g_iadd (pc' := 55) dX10_drink_54 rfl ?_
      refine g_iald (pc' := 56) dX10_drink_55 rfl rfl (by omega) (by omega) (fun v8 ev8 rv8 => ?_)
      have dv8 := ic1.1.wi (i := (k + 3)) (by omega) (by omega)
      rw [← ev8] at dv8
      refine g_iast (pc' := 57) dX10_drink_56 rfl rfl (by omega) (by omega) rv8 (fun M9 hM9 => ?_)
      have iM9 : IM M9 := IM.wrow ic1 hM9 (by unfold okrow; omega)
      have fM9 : Fr (fun c => 97 ≤ c ∧ c ≤ 116) M M9 := Fr.wr fr1 hM9 (by first | decide | omega | (dsimp only; omega))
      have q99_0_M9 : (M9 99 0 = M 99 0) := (show M9 99 0 = M1 99 0 by rw [hM9]; exact mu_ne _ _ (by first | decide | omega)).trans q99_0
      have q99_1_M9 : (M9 99 1 = M 99 1) := (show M9 99 1 = M1 99 1 by rw [hM9]; exact mu_ne _ _ (by first | decide | omega)).trans q99_1
      have q99_2_M9 : (M9 99 2 = M 99 2) := (show M9 99 2 = M1 99 2 by rw [hM9]; exact mu_ne _ _ (by first | decide | omega)).trans q99_2
      have q100_0_M9 : id (M9 100 0 = M 100 0) := (show M9 100 0 = M1 100 0 by rw [hM9]; exact mu_ne _ _ (by first | decide | omega)).trans q100_0
      have q100_1_M9 : id (M9 100 1 = M 100 1) := (show M9 100 1 = M1 100 1 by rw [hM9]; exact mu_ne _ _ (by first | decide | omega)).trans q100_1
      have q100_2_M9 : id (M9 100 2 = M 100 2) := (show M9 100 2 = M1 100 2 by rw [hM9]; exact mu_ne _ _ (by first | decide | omega)).trans q100_2
      have q100_3_M9 : id (M9 100 3 = M 100 3) := (show M9 100 3 = M1 100 3 by rw [hM9]; exact mu_ne _ _ (by first | decide | omega)).trans q100_3
      have q100_49_M9 : id (M9 100 49 = M 100 49) := (show M9 100 49 = M1 100 49 by rw [hM9]; exact mu_ne _ _ (by first | decide | omega)).trans q100_49
      have q100_50_M9 : id (M9 100 50 = M 100 50) := (show M9 100 50 = M1 100 50 by rw [hM9]; exact mu_ne _ _ (by first | decide | omega)).trans q100_50
      have q100_51_M9 : id (M9 100 51 = M 100 51) := (show M9 100 51 = M1 100 51 by rw [hM9]; exact mu_ne _ _ (by first | decide | omega)).trans q100_51
      have q100_52_M9 : id (M9 100 52 = M 100 52) := (show M9 100 52 = M1 100 52 by rw [hM9]; exact mu_ne _ _ (by first | decide | omega)).trans q100_52
      have q103_0_M9 : id (M9 103 0 = M 103 0) := (show M9 103 0 = M1 103 0 by rw [hM9]; exact mu_ne _ _ (by first | decide | omega)).trans q103_0
      have q103_1_M9 : id (M9 103 1 = M 103 1) := (show M9 103 1 = M1 103 1 by rw [hM9]; exact mu_ne _ _ (by first | decide | omega)).trans q103_1
      have q97_12_M9 : (M9 97 12 = M 97 12) := (show M9 97 12 = M1 97 12 by rw [hM9]; exact mu_ne _ _ (by first | decide | omega)).trans q97_12
      have q99_3_M9 : (M9 99 3 = M 99 3) := (show M9 99 3 = M1 99 3 by rw [hM9]; exact mu_ne _ _ (by first | decide | omega)).trans q99_3
      have wM9_99_3 : M9 99 3 = M1 99 3 := by rw [hM9]; exact mu_ne _ _ (by first | decide | omega)
      refine g_iinc (pc' := 60) (L' := [(2, vi (k + 1)), (0, vr X 97), (1, vi a)]) 0 dX10_drink_57 rfl rfl (by decide) rfl ?_
      refine g_goto (tgt := 37) dX10_drink_60 rfl ?_
      refine g_sub [0, 1, 2] rfl ?_
      exact ih _ (by omega) (k + 1) M9 iM9 fM9 q99_0_M9 q99_1_M9 q99_2_M9 q100_0_M9 q100_1_M9 q100_2_M9 q100_3_M9 q100_49_M9 q100_50_M9 q100_51_M9 q100_52_M9 q103_0_M9 q103_1_M9 q97_12_M9 q99_3_M9 (by omega) (by omega) (by omega) rfl
set_option maxHeartbeats 4000000 in
set_option maxRecDepth 100000 in
theorem c_X10_drink (X : Cx) (M : Mm) (hi : IM M) (a : Int) (ha : inI a) : Con X 12 yX10_drink cX10_drink 3 (some .int) [vr X 97, vi a] M (Qi (fun r M1 => IM M1 ∧ Fr (fun c => 97 ≤ c ∧ c ≤ 116) M M1 ∧ M1 99 0 = M 99 0 ∧ M1 99 1 = M 99 1 ∧ M1 99 2 = M 99 2 ∧ M1 100 0 = M 100 0 ∧ M1 100 1 = M 100 1 ∧ M1 100 2 = M 100 2 ∧ M1 100 3 = M 100 3 ∧ M1 100 49 = M 100 49 ∧ M1 100 50 = M 100 50 ∧ M1 100 51 = M 100 51 ∧ M1 100 52 = M 100 52 ∧ M1 103 0 = M 103 0 ∧ M1 103 1 = M 103 1 ∧ M1 97 12 = M 97 12 ∧ (((a < 0 ∨ M 99 3 ≤ a) → r = -2 ∧ M1 99 3 = M 99 3) ∧ (0 ≤ a → a < M 99 3 → r = M 99 3 - 1 ∧ M1 99 3 = M 99 3 - 1)))) := by
  refine Con.ofG rfl (Nat.le_of_ble_eq_true rfl) ?_
  show G X 12 RX10 cX10_drink 3 (some .int) (Qi (fun r M1 => IM M1 ∧ Fr (fun c => 97 ≤ c ∧ c ≤ 116) M M1 ∧ M1 99 0 = M 99 0 ∧ M1 99 1 = M 99 1 ∧ M1 99 2 = M 99 2 ∧ M1 100 0 = M 100 0 ∧ M1 100 1 = M 100 1 ∧ M1 100 2 = M 100 2 ∧ M1 100 3 = M 100 3 ∧ M1 100 49 = M 100 49 ∧ M1 100 50 = M 100 50 ∧ M1 100 51 = M 100 51 ∧ M1 100 52 = M 100 52 ∧ M1 103 0 = M 103 0 ∧ M1 103 1 = M 103 1 ∧ M1 97 12 = M 97 12 ∧ (((a < 0 ∨ M 99 3 ≤ a) → r = -2 ∧ M1 99 3 = M 99 3) ∧ (0 ≤ a → a < M 99 3 → r = M 99 3 - 1 ∧ M1 99 3 = M 99 3 - 1)))) 0 [(0, vr X 97), (1, vi a)] [] M
  have p0 := hi.1.1
  have p1 := hi.1.2.1
  have p2 := hi.1.2.2.1
  have p3 := hi.1.2.2.2.1
  have p12 := hi.2.2.2.1
  refine g_aload_n (pc' := 1) 0 dX10_drink_0 rfl rfl ?_
  refine g_iconst (pc' := 2) dX10_drink_1 rfl ?_
  refine g_putI (pc' := 5) dX10_drink_2 rfl p_X10_77 rfl rfl (by decide) (fun M1 hM1 => ?_)
  have iM1 : IM M1 := IM.wr hi hM1 (by unfold okv; first | decide | omega)
  have fM1 : Fr (fun c => 97 ≤ c ∧ c ≤ 116) M M1 := Fr.wr Fr.rf hM1 (by first | decide | omega | (dsimp only; omega))
  have q99_0_M1 : (M1 99 0 = M 99 0) := (show M1 99 0 = M 99 0 by rw [hM1]; exact mu_ne _ _ (by first | decide | omega))
  have q99_1_M1 : (M1 99 1 = M 99 1) := (show M1 99 1 = M 99 1 by rw [hM1]; exact mu_ne _ _ (by first | decide | omega))
  have q99_2_M1 : (M1 99 2 = M 99 2) := (show M1 99 2 = M 99 2 by rw [hM1]; exact mu_ne _ _ (by first | decide | omega))
  have q100_0_M1 : id (M1 100 0 = M 100 0) := (show M1 100 0 = M 100 0 by rw [hM1]; exact mu_ne _ _ (by first | decide | omega))
  have q100_1_M1 : id (M1 100 1 = M 100 1) := (show M1 100 1 = M 100 1 by rw [hM1]; exact mu_ne _ _ (by first | decide | omega))
  have q100_2_M1 : id (M1 100 2 = M 100 2) := (show M1 100 2 = M 100 2 by rw [hM1]; exact mu_ne _ _ (by first | decide | omega))
  have q100_3_M1 : id (M1 100 3 = M 100 3) := (show M1 100 3 = M 100 3 by rw [hM1]; exact mu_ne _ _ (by first | decide | omega))
  have q100_49_M1 : id (M1 100 49 = M 100 49) := (show M1 100 49 = M 100 49 by rw [hM1]; exact mu_ne _ _ (by first | decide | omega))
  have q100_50_M1 : id (M1 100 50 = M 100 50) := (show M1 100 50 = M 100 50 by rw [hM1]; exact mu_ne _ _ (by first | decide | omega))
  have q100_51_M1 : id (M1 100 51 = M 100 51) := (show M1 100 51 = M 100 51 by rw [hM1]; exact mu_ne _ _ (by first | decide | omega))
  have q100_52_M1 : id (M1 100 52 = M 100 52) := (show M1 100 52 = M 100 52 by rw [hM1]; exact mu_ne _ _ (by first | decide | omega))
  have q103_0_M1 : id (M1 103 0 = M 103 0) := (show M1 103 0 = M 103 0 by rw [hM1]; exact mu_ne _ _ (by first | decide | omega))
  have q103_1_M1 : id (M1 103 1 = M 103 1) := (show M1 103 1 = M 103 1 by rw [hM1]; exact mu_ne _ _ (by first | decide | omega))
  have q97_12_M1 : (M1 97 12 = M 97 12) := (show M1 97 12 = M 97 12 by rw [hM1]; exact mu_ne _ _ (by first | decide | omega))
  have q99_3_M1 : (M1 99 3 = M 99 3) := (show M1 99 3 = M 99 3 by rw [hM1]; exact mu_ne _ _ (by first | decide | omega))
  have wM1_99_3 : M1 99 3 = M 99 3 := by rw [hM1]; exact mu_ne _ _ (by first | decide | omega)
  have xM1_97_0 : M1 97 0 = 0 := by rw [hM1]; exact mu_at _ _ _ _
  refine g_iload_n (pc' := 6) 1 dX10_drink_5 rfl rfl ?_
  refine g_i2l (pc' := 7) ha dX10_drink_6 rfl ?_
  refine g_lconst (pc' := 8) (v := 0) dX10_drink_7 rfl (by decide) ?_
  refine g_aload_n (pc' := 9) 0 dX10_drink_8 rfl rfl ?_
  refine g_getR (pc' := 12) dX10_drink_9 rfl f_X10_13 rfl rfl ?_
  refine g_iconst (pc' := 13) dX10_drink_12 rfl ?_
  refine g_iald (pc' := 14) dX10_drink_13 rfl rfl (by decide) (by decide) (fun v2 ev2 rv2 => ?_)
  have ev2 : v2 = M1 99 3 := ev2
  have bv2 : 0 ≤ v2 ∧ v2 ≤ 6 := by rw [ev2]; exact iM1.1.2.2.2.1
  have av2 : v2 = M 99 3 := ev2.trans q99_3_M1
  refine g_i2l (pc' := 15) rv2 dX10_drink_14 rfl ?_
  refine g_lconst (pc' := 16) (v := 1) dX10_drink_15 rfl (by decide) ?_
  refine g_lsub (pc' := 17) dX10_drink_16 rfl ?_
  refine g_callSip (pc' := 20) (As := [vl a, vl 0, vl (v2 - 1)]) (S := []) dX10_drink_17 rfl m_X10_83 w_X10_in (c_X10_in X M1 a ⟨by omega, by omega⟩ 0 (by decide) (v2 - 1) ⟨by omega, by omega⟩) rfl (by decide) (by decide) rfl (Nat.le_of_ble_eq_true rfl) (fun z4 q3 => ?_)
  refine g_if_ne (pc' := 23) (tgt := 30) ⟨by omega, by omega⟩ dX10_drink_20 rfl rfl (fun c5 => ?_) (fun c5 => ?_)
  · replace q3 := q3.resolve_right (fun h => c5 h.1)
    refine g_bipush (pc' := 32) (v := 31) dX10_drink_30 rfl (by decide) ?_
    refine g_iconst (pc' := 33) dX10_drink_32 rfl ?_
    refine g_iload_n (pc' := 34) 1 dX10_drink_33 rfl rfl ?_
    refine g_imul (pc' := 35) dX10_drink_34 rfl ?_
    refine g_iadd (pc' := 36) dX10_drink_35 rfl ?_
    obtain ⟨x6, ex6⟩ : ∃ z : Int, z = 31 + (3 * a) := ⟨_, rfl⟩
    rw [← ex6]
    refine g_istore_n (pc' := 37) (i := 2) (L' := [(2, vi x6), (0, vr X 97), (1, vi a)]) dX10_drink_36 rfl rfl (by decide) rfl ?_
    refine g_sub [0, 1, 2] rfl ?_
    exact l_X10_drink_37 X M hi a ha _ x6 M1 iM1 fM1 q99_0_M1 q99_1_M1 q99_2_M1 q100_0_M1 q100_1_M1 q100_2_M1 q100_3_M1 q100_49_M1 q100_50_M1 q100_51_M1 q100_52_M1 q103_0_M1 q103_1_M1 q97_12_M1 q99_3_M1 (by omega) (by omega) (by omega) rfl
  · replace q3 := q3.resolve_left (fun h => absurd (c5.symm.trans h.1) (by decide))
    refine g_aload_n (pc' := 24) 0 dX10_drink_23 rfl rfl ?_
    refine g_bipush (pc' := 26) (v := (-2)) dX10_drink_24 rfl (by decide) ?_
    refine g_callVi (pc' := 29) (As := [vi (-2)]) (b := 97) (S := []) dX10_drink_26 rfl m_X10_87 w_X10_tell (c_X10_tell X M1 iM1 (-2) (by decide) (by omega)) rfl ⟨_, _, _, rfl, rfl, rfl⟩ (by decide) (by decide) rfl (Nat.le_of_ble_eq_true rfl) (fun z8 M9 q7 => ?_)
    obtain ⟨iM9, fM90, eM9_99_0, eM9_99_1, eM9_99_2, eM9_99_3, eM9_100_0, eM9_100_1, eM9_100_2, eM9_100_3, eM9_100_49, eM9_100_50, eM9_100_51, eM9_100_52, eM9_103_0, eM9_103_1, eM9_97_12, pM9⟩ := q7
    have fM9 : Fr (fun c => 97 ≤ c ∧ c ≤ 116) M M9 := Fr.tr fM1 fM90 fi_23
    have q99_0_M9 : (M9 99 0 = M 99 0) := eM9_99_0.trans q99_0_M1
    have q99_1_M9 : (M9 99 1 = M 99 1) := eM9_99_1.trans q99_1_M1
    have q99_2_M9 : (M9 99 2 = M 99 2) := eM9_99_2.trans q99_2_M1
    have q100_0_M9 : id (M9 100 0 = M 100 0) := eM9_100_0.trans q100_0_M1
    have q100_1_M9 : id (M9 100 1 = M 100 1) := eM9_100_1.trans q100_1_M1
    have q100_2_M9 : id (M9 100 2 = M 100 2) := eM9_100_2.trans q100_2_M1
    have q100_3_M9 : id (M9 100 3 = M 100 3) := eM9_100_3.trans q100_3_M1
    have q100_49_M9 : id (M9 100 49 = M 100 49) := eM9_100_49.trans q100_49_M1
    have q100_50_M9 : id (M9 100 50 = M 100 50) := eM9_100_50.trans q100_50_M1
    have q100_51_M9 : id (M9 100 51 = M 100 51) := eM9_100_51.trans q100_51_M1
    have q100_52_M9 : id (M9 100 52 = M 100 52) := eM9_100_52.trans q100_52_M1
    have q103_0_M9 : id (M9 103 0 = M 103 0) := eM9_103_0.trans q103_0_M1
    have q103_1_M9 : id (M9 103 1 = M 103 1) := eM9_103_1.trans q103_1_M1
    have q97_12_M9 : (M9 97 12 = M 97 12) := eM9_97_12.trans q97_12_M1
    have q99_3_M9 : (M9 99 3 = M 99 3) := eM9_99_3.trans q99_3_M1
    have wM9_99_3 : M9 99 3 = M1 99 3 := eM9_99_3
    clear eM9_100_0 eM9_100_1 eM9_100_2 eM9_100_3 eM9_100_49 eM9_100_50 eM9_100_51 eM9_100_52 eM9_103_0 eM9_103_1
    refine g_ireturn dX10_drink_29 ?_
    exact ⟨iM9, fM9, q99_0_M9, q99_1_M9, q99_2_M9, q100_0_M9, q100_1_M9, q100_2_M9, q100_3_M9, q100_49_M9, q100_50_M9, q100_51_M9, q100_52_M9, q103_0_M9, q103_1_M9, q97_12_M9, by omega⟩
set_option maxHeartbeats 4000000 in
set_option maxRecDepth 100000 in
theorem c_X10_rinse (X : Cx) (M : Mm) (hi : IM M) (a : Int) (ha : inI a) (b : Int) (hb : inI b) (c : Int) (hc : inI c) (e : Int) (he : inI e) : Con X 12 yX10_rinse cX10_rinse 8 (some .long) [vr X 97, vi a, vi b, vi c, vi e] M (Ql (fun r M1 => IM M1 ∧ Fr (fun c => 97 ≤ c ∧ c ≤ 116) M M1 ∧ M1 99 0 = M 99 0 ∧ M1 99 1 = M 99 1 ∧ M1 99 2 = M 99 2 ∧ M1 99 3 = M 99 3 ∧ M1 100 0 = M 100 0 ∧ M1 100 1 = M 100 1 ∧ M1 100 2 = M 100 2 ∧ M1 100 3 = M 100 3 ∧ M1 100 49 = M 100 49 ∧ M1 100 50 = M 100 50 ∧ M1 100 51 = M 100 51 ∧ M1 100 52 = M 100 52 ∧ M1 103 0 = M 103 0 ∧ M1 103 1 = M 103 1 ∧ M1 97 12 = M 97 12 ∧ (inL r))) := by
  refine Con.ofG rfl (Nat.le_of_ble_eq_true rfl) ?_
  show G X 12 RX10 cX10_rinse 8 (some .long) (Ql (fun r M1 => IM M1 ∧ Fr (fun c => 97 ≤ c ∧ c ≤ 116) M M1 ∧ M1 99 0 = M 99 0 ∧ M1 99 1 = M 99 1 ∧ M1 99 2 = M 99 2 ∧ M1 99 3 = M 99 3 ∧ M1 100 0 = M 100 0 ∧ M1 100 1 = M 100 1 ∧ M1 100 2 = M 100 2 ∧ M1 100 3 = M 100 3 ∧ M1 100 49 = M 100 49 ∧ M1 100 50 = M 100 50 ∧ M1 100 51 = M 100 51 ∧ M1 100 52 = M 100 52 ∧ M1 103 0 = M 103 0 ∧ M1 103 1 = M 103 1 ∧ M1 97 12 = M 97 12 ∧ (inL r))) 0 [(0, vr X 97), (1, vi a), (2, vi b), (3, vi c), (4, vi e)] [] M
  have p0 := hi.1.1
  have p1 := hi.1.2.1
  have p2 := hi.1.2.2.1
  have p3 := hi.1.2.2.2.1
  have p12 := hi.2.2.2.1
  refine g_aload_n (pc' := 1) 0 dX10_rinse_0 rfl rfl ?_
  refine g_iconst (pc' := 2) dX10_rinse_1 rfl ?_
  refine g_putI (pc' := 5) dX10_rinse_2 rfl p_X10_77 rfl rfl (by decide) (fun M1 hM1 => ?_)
  have iM1 : IM M1 := IM.wr hi hM1 (by unfold okv; first | decide | omega)
  have fM1 : Fr (fun c => 97 ≤ c ∧ c ≤ 116) M M1 := Fr.wr Fr.rf hM1 (by first | decide | omega | (dsimp only; omega))
  have q99_0_M1 : (M1 99 0 = M 99 0) := (show M1 99 0 = M 99 0 by rw [hM1]; exact mu_ne _ _ (by first | decide | omega))
  have q99_1_M1 : (M1 99 1 = M 99 1) := (show M1 99 1 = M 99 1 by rw [hM1]; exact mu_ne _ _ (by first | decide | omega))
  have q99_2_M1 : (M1 99 2 = M 99 2) := (show M1 99 2 = M 99 2 by rw [hM1]; exact mu_ne _ _ (by first | decide | omega))
  have q99_3_M1 : (M1 99 3 = M 99 3) := (show M1 99 3 = M 99 3 by rw [hM1]; exact mu_ne _ _ (by first | decide | omega))
  have q100_0_M1 : id (M1 100 0 = M 100 0) := (show M1 100 0 = M 100 0 by rw [hM1]; exact mu_ne _ _ (by first | decide | omega))
  have q100_1_M1 : id (M1 100 1 = M 100 1) := (show M1 100 1 = M 100 1 by rw [hM1]; exact mu_ne _ _ (by first | decide | omega))
  have q100_2_M1 : id (M1 100 2 = M 100 2) := (show M1 100 2 = M 100 2 by rw [hM1]; exact mu_ne _ _ (by first | decide | omega))
  have q100_3_M1 : id (M1 100 3 = M 100 3) := (show M1 100 3 = M 100 3 by rw [hM1]; exact mu_ne _ _ (by first | decide | omega))
  have q100_49_M1 : id (M1 100 49 = M 100 49) := (show M1 100 49 = M 100 49 by rw [hM1]; exact mu_ne _ _ (by first | decide | omega))
  have q100_50_M1 : id (M1 100 50 = M 100 50) := (show M1 100 50 = M 100 50 by rw [hM1]; exact mu_ne _ _ (by first | decide | omega))
  have q100_51_M1 : id (M1 100 51 = M 100 51) := (show M1 100 51 = M 100 51 by rw [hM1]; exact mu_ne _ _ (by first | decide | omega))
  have q100_52_M1 : id (M1 100 52 = M 100 52) := (show M1 100 52 = M 100 52 by rw [hM1]; exact mu_ne _ _ (by first | decide | omega))
  have q103_0_M1 : id (M1 103 0 = M 103 0) := (show M1 103 0 = M 103 0 by rw [hM1]; exact mu_ne _ _ (by first | decide | omega))
  have q103_1_M1 : id (M1 103 1 = M 103 1) := (show M1 103 1 = M 103 1 by rw [hM1]; exact mu_ne _ _ (by first | decide | omega))
  have q97_12_M1 : (M1 97 12 = M 97 12) := (show M1 97 12 = M 97 12 by rw [hM1]; exact mu_ne _ _ (by first | decide | omega))
  have xM1_97_0 : M1 97 0 = 0 := by rw [hM1]; exact mu_at _ _ _ _
  refine g_iload_n (pc' := 6) 1 dX10_rinse_5 rfl rfl ?_
  refine g_i2l (pc' := 7) ha dX10_rinse_6 rfl ?_
  refine g_lconst (pc' := 8) (v := 1) dX10_rinse_7 rfl (by decide) ?_
  refine g_ldc2 (pc' := 11) (v := 9) dX10_rinse_8 rfl k_X10_380 ?_
  refine g_callSip (pc' := 14) (As := [vl a, vl 1, vl 9]) (S := []) dX10_rinse_11 rfl m_X10_83 w_X10_in (c_X10_in X M1 a ⟨by omega, by omega⟩ 1 (by decide) 9 (by decide)) rfl (by decide) (by decide) rfl (Nat.le_of_ble_eq_true rfl) (fun z3 q2 => ?_)
  refine g_if_eq (pc' := 17) (tgt := 55) ⟨by omega, by omega⟩ dX10_rinse_14 rfl rfl (fun c4 => ?_) (fun c4 => ?_)
  · replace q2 := q2.resolve_left (fun h => absurd (c4.symm.trans h.1) (by decide))
    refine g_ldc2 (pc' := 58) (v := (-1)) dX10_rinse_55 rfl k_X10_108 ?_
    refine g_lreturn dX10_rinse_58 ?_
    exact ⟨iM1, fM1, q99_0_M1, q99_1_M1, q99_2_M1, q99_3_M1, q100_0_M1, q100_1_M1, q100_2_M1, q100_3_M1, q100_49_M1, q100_50_M1, q100_51_M1, q100_52_M1, q103_0_M1, q103_1_M1, q97_12_M1, by first | assumption | decide | omega⟩
  · replace q2 := q2.resolve_right (fun h => c4 h.1)
    refine g_iload_n (pc' := 18) 2 dX10_rinse_17 rfl rfl ?_
    refine g_i2l (pc' := 19) hb dX10_rinse_18 rfl ?_
    refine g_lconst (pc' := 20) (v := 0) dX10_rinse_19 rfl (by decide) ?_
    refine g_ldc2 (pc' := 23) (v := 60) dX10_rinse_20 rfl k_X10_93 ?_
    refine g_callSip (pc' := 26) (As := [vl b, vl 0, vl 60]) (S := []) dX10_rinse_23 rfl m_X10_83 w_X10_in (c_X10_in X M1 b ⟨by omega, by omega⟩ 0 (by decide) 60 (by decide)) rfl (by decide) (by decide) rfl (Nat.le_of_ble_eq_true rfl) (fun z6 q5 => ?_)
    refine g_if_eq (pc' := 29) (tgt := 55) ⟨by omega, by omega⟩ dX10_rinse_26 rfl rfl (fun c7 => ?_) (fun c7 => ?_)
    · replace q5 := q5.resolve_left (fun h => absurd (c7.symm.trans h.1) (by decide))
      refine g_ldc2 (pc' := 58) (v := (-1)) dX10_rinse_55 rfl k_X10_108 ?_
      refine g_lreturn dX10_rinse_58 ?_
      exact ⟨iM1, fM1, q99_0_M1, q99_1_M1, q99_2_M1, q99_3_M1, q100_0_M1, q100_1_M1, q100_2_M1, q100_3_M1, q100_49_M1, q100_50_M1, q100_51_M1, q100_52_M1, q103_0_M1, q103_1_M1, q97_12_M1, by first | assumption | decide | omega⟩
    · replace q5 := q5.resolve_right (fun h => c7 h.1)
      refine g_iload_n (pc' := 30) 3 dX10_rinse_29 rfl rfl ?_
      refine g_i2l (pc' := 31) hc dX10_rinse_30 rfl ?_
      refine g_lconst (pc' := 32) (v := 1) dX10_rinse_31 rfl (by decide) ?_
      refine g_ldc2 (pc' := 35) (v := 6) dX10_rinse_32 rfl k_X10_335 ?_
      refine g_callSip (pc' := 38) (As := [vl c, vl 1, vl 6]) (S := []) dX10_rinse_35 rfl m_X10_83 w_X10_in (c_X10_in X M1 c ⟨by omega, by omega⟩ 1 (by decide) 6 (by decide)) rfl (by decide) (by decide) rfl (Nat.le_of_ble_eq_true rfl) (fun z9 q8 => ?_)
      refine g_if_eq (pc' := 41) (tgt := 55) ⟨by omega, by omega⟩ dX10_rinse_38 rfl rfl (fun c10 => ?_) (fun c10 => ?_)
      · replace q8 := q8.resolve_left (fun h => absurd (c10.symm.trans h.1) (by decide))
        refine g_ldc2 (pc' := 58) (v := (-1)) dX10_rinse_55 rfl k_X10_108 ?_
        refine g_lreturn dX10_rinse_58 ?_
        exact ⟨iM1, fM1, q99_0_M1, q99_1_M1, q99_2_M1, q99_3_M1, q100_0_M1, q100_1_M1, q100_2_M1, q100_3_M1, q100_49_M1, q100_50_M1, q100_51_M1, q100_52_M1, q103_0_M1, q103_1_M1, q97_12_M1, by first | assumption | decide | omega⟩
      · replace q8 := q8.resolve_right (fun h => c10 h.1)
        refine g_iload (pc' := 43) 4 dX10_rinse_41 rfl rfl ?_
        refine g_i2l (pc' := 44) he dX10_rinse_43 rfl ?_
        refine g_lconst (pc' := 45) (v := 0) dX10_rinse_44 rfl (by decide) ?_
        refine g_lconst (pc' := 46) (v := 1) dX10_rinse_45 rfl (by decide) ?_
        refine g_iload_n (pc' := 47) 3 dX10_rinse_46 rfl rfl ?_
        refine g_i2l (pc' := 48) hc dX10_rinse_47 rfl ?_
        refine g_ladd (pc' := 49) dX10_rinse_48 rfl ?_
        refine g_callSip (pc' := 52) (As := [vl e, vl 0, vl (1 + c)]) (S := []) dX10_rinse_49 rfl m_X10_83 w_X10_in (c_X10_in X M1 e ⟨by omega, by omega⟩ 0 (by decide) (1 + c) ⟨by omega, by omega⟩) rfl (by decide) (by decide) rfl (Nat.le_of_ble_eq_true rfl) (fun z12 q11 => ?_)
        refine g_if_ne (pc' := 55) (tgt := 59) ⟨by omega, by omega⟩ dX10_rinse_52 rfl rfl (fun c13 => ?_) (fun c13 => ?_)
        · replace q11 := q11.resolve_right (fun h => c13 h.1)
          refine g_iload_n (pc' := 60) 3 dX10_rinse_59 rfl rfl ?_
          refine g_iload_n (pc' := 61) 2 dX10_rinse_60 rfl rfl ?_
          refine g_iload_n (pc' := 62) 3 dX10_rinse_61 rfl rfl ?_
          have hw1 := tmr (x := b) (k := c) (by omega) (by omega)
          have hw2 := tdr (x := b) (k := c) (by omega) (by omega)
          refine g_irem (pc' := 63) hb hc (by omega) dX10_rinse_62 rfl ?_
          refine g_isub (pc' := 64) dX10_rinse_63 rfl ?_
          refine g_istore (pc' := 66) (L' := [(5, vi (c - (b.tmod c))), (0, vr X 97), (1, vi a), (2, vi b), (3, vi c), (4, vi e)]) dX10_rinse_64 rfl (by decide) rfl ?_
          refine g_iload (pc' := 68) 5 dX10_rinse_66 rfl rfl ?_
          refine g_iconst (pc' := 69) dX10_rinse_68 rfl ?_
          refine g_ic_le (pc' := 72) (tgt := 92) he (by decide) dX10_rinse_69 rfl rfl (fun c14 => ?_) (fun c14 => ?_)
          · refine g_iload_n (pc' := 93) 2 dX10_rinse_92 rfl rfl ?_
            refine g_iload_n (pc' := 94) 3 dX10_rinse_93 rfl rfl ?_
            refine g_iload_n (pc' := 95) 4 dX10_rinse_94 rfl rfl ?_
            refine g_idiv (pc' := 96) hb hc (by omega) dX10_rinse_95 rfl ?_
            refine g_iadd (pc' := 97) dX10_rinse_96 rfl ?_
            refine g_i2l (pc' := 98) ⟨by omega, by omega⟩ dX10_rinse_97 rfl ?_
            refine g_iload (pc' := 100) 0 dX10_rinse_98 rfl rfl ?_
            refine g_callSlp (pc' := 103) (As := [vl (a + (b.tdiv c)), vi (c - (b.tmod c))]) (S := []) dX10_rinse_100 rfl m_X10_337 w_X10_power (c_X10_power X M1 (a + (b.tdiv c)) ⟨by omega, by omega⟩ (c - (b.tmod c)) ⟨by omega, by omega⟩ (by omega) (by omega)) rfl (by decide) (by decide) rfl (Nat.le_of_ble_eq_true rfl) (fun z16 q15 => ?_)
            have hz16 := powR (a := a + (b.tdiv c)) (k := (c - (b.tmod c)).toNat) (by omega) (by omega) (by omega)
            rw [← q15] at hz16
            refine g_iload_n (pc' := 104) 2 dX10_rinse_103 rfl rfl ?_
            refine g_iload_n (pc' := 105) 3 dX10_rinse_104 rfl rfl ?_
            refine g_iload_n (pc' := 106) 4 dX10_rinse_105 rfl rfl ?_
            refine g_idiv (pc' := 107) hb hc (by omega) dX10_rinse_106 rfl ?_
            refine g_iadd (pc' := 108) dX10_rinse_107 rfl ?_
            refine g_iconst (pc' := 109) dX10_rinse_108 rfl ?_
            refine g_iadd (pc' := 110) dX10_rinse_109 rfl ?_
            refine g_i2l (pc' := 111) ⟨by omega, by omega⟩ dX10_rinse_110 rfl ?_
            refine g_iload_n (pc' := 112) 4 dX10_rinse_111 rfl rfl ?_
            refine g_iload (pc' := 114) 0 dX10_rinse_112 rfl rfl ?_
            refine g_isub (pc' := 115) dX10_rinse_114 rfl ?_
            refine g_callSlp (pc' := 118) (As := [vl ((a + (b.tdiv c)) + 1), vi (c - (c - (b.tmod c)))]) (S := [vl z16]) dX10_rinse_115 rfl m_X10_337 w_X10_power (c_X10_power X M1 ((a + (b.tdiv c)) + 1) ⟨by omega, by omega⟩ (c - (c - (b.tmod c))) ⟨by omega, by omega⟩ (by omega) (by omega)) rfl (by decide) (by decide) rfl (Nat.le_of_ble_eq_true rfl) (fun z18 q17 => ?_)
            have hz18 := powR (a := (a + (b.tdiv c)) + 1) (k := (c - (c - (b.tmod c))).toNat) (by omega) (by omega) (by omega)
            rw [← q17] at hz18
            refine g_lmul (pc' := 119) dX10_rinse_118 rfl ?_
            have hpq := powQ (a := a + (b.tdiv c)) (b := (a + (b.tdiv c)) + 1) (p := (c - (b.tmod c)).toNat) (q := (c - (c - (b.tmod c))).toNat) (by omega) (by omega) (by omega) (by omega) (by omega)
            rw [← q15, ← q17] at hpq
            refine g_lstore (pc' := 121) (L' := [(6, vl (z16 * z18)), (5, vi (c - (b.tmod c))), (0, vr X 97), (1, vi a), (2, vi b), (3, vi c), (4, vi e)]) dX10_rinse_119 rfl (by decide) rfl ?_
            refine g_iload_n (pc' := 122) 3 dX10_rinse_121 rfl rfl ?_
            refine g_i2l (pc' := 123) ha dX10_rinse_122 rfl ?_
            refine g_iload_n (pc' := 124) 5 dX10_rinse_123 rfl rfl ?_
            refine g_callSlp (pc' := 127) (As := [vl a, vi c]) (S := []) dX10_rinse_124 rfl m_X10_337 w_X10_power (c_X10_power X M1 a ⟨by omega, by omega⟩ c hc (by omega) (by omega)) rfl (by decide) (by decide) rfl (Nat.le_of_ble_eq_true rfl) (fun z20 q19 => ?_)
            have hz20 := powR (a := a) (k := (c).toNat) (by omega) (by omega) (by omega)
            rw [← q19] at hz20
            refine g_lload (pc' := 129) 0 dX10_rinse_127 rfl rfl ?_
            refine g_iload (pc' := 131) 6 dX10_rinse_129 rfl rfl ?_
            refine g_callSlp (pc' := 134) (As := [vl z20, vl (z16 * z18), vi e]) (S := []) dX10_rinse_131 rfl m_X10_341 w_X10_lowest (c_X10_lowest X M1 z20 ⟨by omega, by omega⟩ (z16 * z18) ⟨by omega, by omega⟩ e he (by omega) (by omega)) rfl (by decide) (by decide) rfl (Nat.le_of_ble_eq_true rfl) (fun z22 q21 => ?_)
            refine g_lreturn dX10_rinse_134 ?_
            exact ⟨iM1, fM1, q99_0_M1, q99_1_M1, q99_2_M1, q99_3_M1, q100_0_M1, q100_1_M1, q100_2_M1, q100_3_M1, q100_49_M1, q100_50_M1, q100_51_M1, q100_52_M1, q103_0_M1, q103_1_M1, q97_12_M1, by first | assumption | decide | omega⟩
          · refine g_iload_n (pc' := 73) 3 dX10_rinse_72 rfl rfl ?_
            refine g_iload_n (pc' := 74) 4 dX10_rinse_73 rfl rfl ?_
            refine g_idiv (pc' := 75) hb hc (by omega) dX10_rinse_74 rfl ?_
            refine g_iload (pc' := 77) 5 dX10_rinse_75 rfl rfl ?_
            refine g_iconst (pc' := 78) dX10_rinse_77 rfl ?_
            refine g_isub (pc' := 79) dX10_rinse_78 rfl ?_
            refine g_iload (pc' := 81) 0 dX10_rinse_79 rfl rfl ?_
            refine g_ic_ge (pc' := 84) (tgt := 88) ⟨by omega, by omega⟩ ⟨by omega, by omega⟩ dX10_rinse_81 rfl rfl (fun c23 => ?_) (fun c23 => ?_)
            · refine g_iconst (pc' := 89) dX10_rinse_88 rfl ?_
              refine g_iadd (pc' := 90) dX10_rinse_89 rfl ?_
              refine g_i2l (pc' := 91) ⟨by omega, by omega⟩ dX10_rinse_90 rfl ?_
              refine g_lreturn dX10_rinse_91 ?_
              exact ⟨iM1, fM1, q99_0_M1, q99_1_M1, q99_2_M1, q99_3_M1, q100_0_M1, q100_1_M1, q100_2_M1, q100_3_M1, q100_49_M1, q100_50_M1, q100_51_M1, q100_52_M1, q103_0_M1, q103_1_M1, q97_12_M1, by first | assumption | decide | omega⟩
            · refine g_iconst (pc' := 85) dX10_rinse_84 rfl ?_
              refine g_goto (tgt := 89) dX10_rinse_85 rfl ?_
              refine g_iadd (pc' := 90) dX10_rinse_89 rfl ?_
              refine g_i2l (pc' := 91) ⟨by omega, by omega⟩ dX10_rinse_90 rfl ?_
              refine g_lreturn dX10_rinse_91 ?_
              exact ⟨iM1, fM1, q99_0_M1, q99_1_M1, q99_2_M1, q99_3_M1, q100_0_M1, q100_1_M1, q100_2_M1, q100_3_M1, q100_49_M1, q100_50_M1, q100_51_M1, q100_52_M1, q103_0_M1, q103_1_M1, q97_12_M1, by first | assumption | decide | omega⟩
        · replace q11 := q11.resolve_left (fun h => absurd (c13.symm.trans h.1) (by decide))
          refine g_ldc2 (pc' := 58) (v := (-1)) dX10_rinse_55 rfl k_X10_108 ?_
          refine g_lreturn dX10_rinse_58 ?_
          exact ⟨iM1, fM1, q99_0_M1, q99_1_M1, q99_2_M1, q99_3_M1, q100_0_M1, q100_1_M1, q100_2_M1, q100_3_M1, q100_49_M1, q100_50_M1, q100_51_M1, q100_52_M1, q103_0_M1, q103_1_M1, q97_12_M1, by first | assumption | decide | omega⟩
set_option maxHeartbeats 4000000 in
set_option maxRecDepth 100000 in
theorem c_X10_draw (X : Cx) (M : Mm) (hi : IM M) (n : Int) (hn : inI n) (hst : 0 ≤ M 97 42 ∧ M 97 42 ≤ 1000003) (hn1 : 1 ≤ n) : Con X 0 yX10_draw cX10_draw 2 (some .int) [vr X 97, vi n] M (Qi (fun r M1 => IM M1 ∧ Fr (fun c => c = 97) M M1 ∧ M1 99 0 = M 99 0 ∧ M1 99 1 = M 99 1 ∧ M1 99 2 = M 99 2 ∧ M1 99 3 = M 99 3 ∧ M1 100 0 = M 100 0 ∧ M1 100 1 = M 100 1 ∧ M1 100 2 = M 100 2 ∧ M1 100 3 = M 100 3 ∧ M1 100 49 = M 100 49 ∧ M1 100 50 = M 100 50 ∧ M1 100 51 = M 100 51 ∧ M1 100 52 = M 100 52 ∧ M1 103 0 = M 103 0 ∧ M1 103 1 = M 103 1 ∧ M1 97 12 = M 97 12 ∧ ((0 ≤ r ∧ r < n) ∧ (0 ≤ M1 97 42 ∧ M1 97 42 ≤ 1000003)))) := by
  refine Con.ofG rfl (Nat.le_of_ble_eq_true rfl) ?_
  show G X 0 RX10 cX10_draw 2 (some .int) (Qi (fun r M1 => IM M1 ∧ Fr (fun c => c = 97) M M1 ∧ M1 99 0 = M 99 0 ∧ M1 99 1 = M 99 1 ∧ M1 99 2 = M 99 2 ∧ M1 99 3 = M 99 3 ∧ M1 100 0 = M 100 0 ∧ M1 100 1 = M 100 1 ∧ M1 100 2 = M 100 2 ∧ M1 100 3 = M 100 3 ∧ M1 100 49 = M 100 49 ∧ M1 100 50 = M 100 50 ∧ M1 100 51 = M 100 51 ∧ M1 100 52 = M 100 52 ∧ M1 103 0 = M 103 0 ∧ M1 103 1 = M 103 1 ∧ M1 97 12 = M 97 12 ∧ ((0 ≤ r ∧ r < n) ∧ (0 ≤ M1 97 42 ∧ M1 97 42 ≤ 1000003)))) 0 [(0, vr X 97), (1, vi n)] [] M
  refine g_aload_n (pc' := 1) 0 dX10_draw_0 rfl rfl ?_
  refine g_aload_n (pc' := 2) 0 dX10_draw_1 rfl rfl ?_
  refine g_getL (pc' := 5) dX10_draw_2 rfl f_X10_399 rfl rfl (fun v1 ev1 rv1 => ?_)
  have av1 : v1 = M 97 42 := ev1
  refine g_ldc2 (pc' := 8) (v := 1103) dX10_draw_5 rfl k_X10_402 ?_
  refine g_lmul (pc' := 9) dX10_draw_8 rfl ?_
  refine g_ldc2 (pc' := 12) (v := 12345) dX10_draw_9 rfl k_X10_404 ?_
  refine g_ladd (pc' := 13) dX10_draw_12 rfl ?_
  refine g_ldc2 (pc' := 16) (v := 1000003) dX10_draw_13 rfl k_X10_406 ?_
  refine g_lremP (pc' := 17) ⟨by omega, by omega⟩ (by decide) (by omega) (by omega) dX10_draw_16 rfl ?_
  refine g_putL (pc' := 20) dX10_draw_17 rfl p_X10_399 rfl rfl ⟨by omega, by omega⟩ (fun M2 hM2 => ?_)
  have iM2 : IM M2 := IM.wr hi hM2 (by unfold okv; first | decide | omega)
  have fM2 : Fr (fun c => c = 97) M M2 := Fr.wr Fr.rf hM2 (by first | decide | omega | (dsimp only; omega))
  have q99_0_M2 : (M2 99 0 = M 99 0) := (show M2 99 0 = M 99 0 by rw [hM2]; exact mu_ne _ _ (by first | decide | omega))
  have q99_1_M2 : (M2 99 1 = M 99 1) := (show M2 99 1 = M 99 1 by rw [hM2]; exact mu_ne _ _ (by first | decide | omega))
  have q99_2_M2 : (M2 99 2 = M 99 2) := (show M2 99 2 = M 99 2 by rw [hM2]; exact mu_ne _ _ (by first | decide | omega))
  have q99_3_M2 : (M2 99 3 = M 99 3) := (show M2 99 3 = M 99 3 by rw [hM2]; exact mu_ne _ _ (by first | decide | omega))
  have q100_0_M2 : id (M2 100 0 = M 100 0) := (show M2 100 0 = M 100 0 by rw [hM2]; exact mu_ne _ _ (by first | decide | omega))
  have q100_1_M2 : id (M2 100 1 = M 100 1) := (show M2 100 1 = M 100 1 by rw [hM2]; exact mu_ne _ _ (by first | decide | omega))
  have q100_2_M2 : id (M2 100 2 = M 100 2) := (show M2 100 2 = M 100 2 by rw [hM2]; exact mu_ne _ _ (by first | decide | omega))
  have q100_3_M2 : id (M2 100 3 = M 100 3) := (show M2 100 3 = M 100 3 by rw [hM2]; exact mu_ne _ _ (by first | decide | omega))
  have q100_49_M2 : id (M2 100 49 = M 100 49) := (show M2 100 49 = M 100 49 by rw [hM2]; exact mu_ne _ _ (by first | decide | omega))
  have q100_50_M2 : id (M2 100 50 = M 100 50) := (show M2 100 50 = M 100 50 by rw [hM2]; exact mu_ne _ _ (by first | decide | omega))
  have q100_51_M2 : id (M2 100 51 = M 100 51) := (show M2 100 51 = M 100 51 by rw [hM2]; exact mu_ne _ _ (by first | decide | omega))
  have q100_52_M2 : id (M2 100 52 = M 100 52) := (show M2 100 52 = M 100 52 by rw [hM2]; exact mu_ne _ _ (by first | decide | omega))
  have q103_0_M2 : id (M2 103 0 = M 103 0) := (show M2 103 0 = M 103 0 by rw [hM2]; exact mu_ne _ _ (by first | decide | omega))
  have q103_1_M2 : id (M2 103 1 = M 103 1) := (show M2 103 1 = M 103 1 by rw [hM2]; exact mu_ne _ _ (by first | decide | omega))
  have q97_12_M2 : (M2 97 12 = M 97 12) := (show M2 97 12 = M 97 12 by rw [hM2]; exact mu_ne _ _ (by first | decide | omega))
  have xM2_97_42 : M2 97 42 = ((v1 * 1103) + 12345) % 1000003 := by rw [hM2]; exact mu_at _ _ _ _
  refine g_aload_n (pc' := 21) 0 dX10_draw_20 rfl rfl ?_
  refine g_getL (pc' := 24) dX10_draw_21 rfl f_X10_399 rfl rfl (fun v3 ev3 rv3 => ?_)
  have yv3 : v3 = ((v1 * 1103) + 12345) % 1000003 := ev3.trans xM2_97_42
  refine g_iload_n (pc' := 25) 1 dX10_draw_24 rfl rfl ?_
  refine g_i2l (pc' := 26) hn dX10_draw_25 rfl ?_
  refine g_lremP (pc' := 27) rv3 ⟨by omega, by omega⟩ (by omega) (by omega) dX10_draw_26 rfl ?_
  have hm1 := Int.emod_nonneg v3 (show n ≠ 0 by omega)
  have hm2 := Int.emod_lt_of_pos v3 (show 0 < n by omega)
  refine g_l2i (pc' := 28) dX10_draw_27 rfl ?_
  refine g_ireturn dX10_draw_28 ?_
  exact ⟨iM2, fM2, q99_0_M2, q99_1_M2, q99_2_M2, q99_3_M2, q100_0_M2, q100_1_M2, q100_2_M2, q100_3_M2, q100_49_M2, q100_50_M2, q100_51_M2, q100_52_M2, q103_0_M2, q103_1_M2, q97_12_M2, by omega⟩
set_option maxHeartbeats 4000000 in
set_option maxRecDepth 100000 in
theorem l_X10_night_157 (X : Cx) (M : Mm) (hi : IM M) (a : Int) (ha : inI a) (b : Int) (hb : inI b) : ∀ (kk : Nat) (md : Int) (k : Int) (M1 : Mm) (ic1 : IM M1) (fr1 : Fr (fun c => 97 ≤ c ∧ c ≤ 116) M M1) (q99_0 : (M1 99 0 = M 99 0)) (q99_1 : (M1 99 1 = M 99 1)) (q99_2 : (M1 99 2 = M 99 2)) (q99_3 : (M1 99 3 = M 99 3)) (q100_0 : id (M1 100 0 = M 100 0)) (q100_1 : id (M1 100 1 = M 100 1)) (q100_2 : id (M1 100 2 = M 100 2)) (q100_3 : id (M1 100 3 = M 100 3)) (q100_49 : id (M1 100 49 = M 100 49)) (q100_50 : id (M1 100 50 = M 100 50)) (q100_51 : id (M1 100 51 = M 100 51)) (q100_52 : id (M1 100 52 = M 100 52)) (q103_0 : id (M1 103 0 = M 103 0)) (q103_1 : id (M1 103 1 = M 103 1)) (q97_12 : (M1 97 12 = M 97 12)) (kn : ∀ j : Nat, j < 25 → M1 104 (275 + j) = M 101 j) (hm : 0 ≤ md ∧ md ≤ 20) (h0 : 0 ≤ k) (h1 : k ≤ 24), (24 - k).toNat = kk → G X 12 RX10 cX10_night 7 (some .int) (Qi (fun r M1 => IM M1 ∧ Fr (fun c => 97 ≤ c ∧ c ≤ 116) M M1 ∧ M1 99 0 = M 99 0 ∧ M1 99 1 = M 99 1 ∧ M1 99 2 = M 99 2 ∧ M1 99 3 = M 99 3 ∧ M1 100 0 = M 100 0 ∧ M1 100 1 = M 100 1 ∧ M1 100 2 = M 100 2 ∧ M1 100 3 = M 100 3 ∧ M1 100 49 = M 100 49 ∧ M1 100 50 = M 100 50 ∧ M1 100 51 = M 100 51 ∧ M1 100 52 = M 100 52 ∧ M1 103 0 = M 103 0 ∧ M1 103 1 = M 103 1 ∧ M1 97 12 = M 97 12 ∧ (inI r))) 157 [(3, vi md), (4, vi k), (0, vr X 97)] [] M1 := by
  intro kk
  induction kk using Nat.strongRecOn with
  | ind kk ih =>
    intro md k M1 ic1 fr1 q99_0 q99_1 q99_2 q99_3 q100_0 q100_1 q100_2 q100_3 q100_49 q100_50 q100_51 q100_52 q103_0 q103_1 q97_12 kn hm h0 h1 hmes
    have p0 := hi.1.1
    have p1 := hi.1.2.1
    have p2 := hi.1.2.2.1
    have p3 := hi.1.2.2.2.1
    have p12 := hi.2.2.2.1
    refine g_iload (pc' := 159) 1 dX10_night_157 rfl rfl ?_
    refine g_iconst (pc' := 160) dX10_night_159 rfl ?_
    refine g_aload_n (pc' := 161) 2 dX10_night_160 rfl rfl ?_
    refine g_getI (pc' := 164) dX10_night_161 rfl f_X10_411 rfl rfl (fun v1 ev1 rv1 => ?_)
    have bv1 : 0 ≤ v1 ∧ v1 ≤ 6 := by rw [ev1]; exact ic1.2.2.2.2
    refine g_imul (pc' := 165) dX10_night_164 rfl ?_
    refine g_ic_ge (pc' := 168) (tgt := 193) ⟨by omega, by omega⟩ ⟨by omega, by omega⟩ dX10_night_165 rfl rfl (fun c2 => ?_) (fun c2 => ?_)
    · refine g_aload_n (pc' := 194) 2 dX10_night_193 rfl rfl ?_
      refine g_sipush (pc' := 197) (v := 275) dX10_night_194 rfl (by decide) ?_
      refine g_callVv (pc' := 200) (As := [vi 275]) (b := 97) (S := []) dX10_night_197 rfl m_X10_132 w_X10_putBack (c_X10_putBack X M1 275 (by decide) ⟨by omega, by omega⟩) rfl ⟨_, _, _, rfl, rfl, rfl⟩ (by decide) (by decide) rfl (Nat.le_of_ble_eq_true rfl) (fun M4 q3 => ?_)
      obtain ⟨fbM4, pbM4⟩ := q3
      have iM4 : IM M4 := IM.parts ic1 fbM4 (fun c z => by omega) (PIw.cg hi.2.1 (fun j hj => (pbM4 j hj).trans (kn j hj)))
      have fM4 : Fr (fun c => 97 ≤ c ∧ c ≤ 116) M M4 := Fr.tr fr1 fbM4 (fun c z => by omega)
      have q99_0_M4 : M4 99 0 = M 99 0 := (congrFun (fbM4 99 (by omega)) 0).trans q99_0
      have q99_1_M4 : M4 99 1 = M 99 1 := (congrFun (fbM4 99 (by omega)) 1).trans q99_1
      have q99_2_M4 : M4 99 2 = M 99 2 := (congrFun (fbM4 99 (by omega)) 2).trans q99_2
      have q99_3_M4 : M4 99 3 = M 99 3 := (congrFun (fbM4 99 (by omega)) 3).trans q99_3
      have q100_0_M4 : M4 100 0 = M 100 0 := (congrFun (fbM4 100 (by omega)) 0).trans q100_0
      have q100_1_M4 : M4 100 1 = M 100 1 := (congrFun (fbM4 100 (by omega)) 1).trans q100_1
      have q100_2_M4 : M4 100 2 = M 100 2 := (congrFun (fbM4 100 (by omega)) 2).trans q100_2
      have q100_3_M4 : M4 100 3 = M 100 3 := (congrFun (fbM4 100 (by omega)) 3).trans q100_3
      have q100_49_M4 : M4 100 49 = M 100 49 := (congrFun (fbM4 100 (by omega)) 49).trans q100_49
      have q100_50_M4 : M4 100 50 = M 100 50 := (congrFun (fbM4 100 (by omega)) 50).trans q100_50
      have q100_51_M4 : M4 100 51 = M 100 51 := (congrFun (fbM4 100 (by omega)) 51).trans q100_51
      have q100_52_M4 : M4 100 52 = M 100 52 := (congrFun (fbM4 100 (by omega)) 52).trans q100_52
      have q103_0_M4 : M4 103 0 = M 103 0 := (congrFun (fbM4 103 (by omega)) 0).trans q103_0
      have q103_1_M4 : M4 103 1 = M 103 1 := (congrFun (fbM4 103 (by omega)) 1).trans q103_1
      have q97_12_M4 : M4 97 12 = M 97 12 := (congrFun (fbM4 97 (by omega)) 12).trans q97_12
      refine g_aload_n (pc' := 201) 2 dX10_night_200 rfl rfl ?_
      refine g_iload_n (pc' := 202) 0 dX10_night_201 rfl rfl ?_
      refine g_callVi (pc' := 205) (As := [vi md]) (b := 97) (S := []) dX10_night_202 rfl m_X10_87 w_X10_tell (c_X10_tell X M4 iM4 md ⟨by omega, by omega⟩ (by omega)) rfl ⟨_, _, _, rfl, rfl, rfl⟩ (by decide) (by decide) rfl (Nat.le_of_ble_eq_true rfl) (fun z6 M7 q5 => ?_)
      obtain ⟨iM7, fM70, eM7_99_0, eM7_99_1, eM7_99_2, eM7_99_3, eM7_100_0, eM7_100_1, eM7_100_2, eM7_100_3, eM7_100_49, eM7_100_50, eM7_100_51, eM7_100_52, eM7_103_0, eM7_103_1, eM7_97_12, pM7⟩ := q5
      have fM7 : Fr (fun c => 97 ≤ c ∧ c ≤ 116) M M7 := Fr.tr fM4 fM70 fi_23
      have q99_0_M7 : (M7 99 0 = M 99 0) := eM7_99_0.trans q99_0_M4
      have q99_1_M7 : (M7 99 1 = M 99 1) := eM7_99_1.trans q99_1_M4
      have q99_2_M7 : (M7 99 2 = M 99 2) := eM7_99_2.trans q99_2_M4
      have q99_3_M7 : (M7 99 3 = M 99 3) := eM7_99_3.trans q99_3_M4
      have q100_0_M7 : id (M7 100 0 = M 100 0) := eM7_100_0.trans q100_0_M4
      have q100_1_M7 : id (M7 100 1 = M 100 1) := eM7_100_1.trans q100_1_M4
      have q100_2_M7 : id (M7 100 2 = M 100 2) := eM7_100_2.trans q100_2_M4
      have q100_3_M7 : id (M7 100 3 = M 100 3) := eM7_100_3.trans q100_3_M4
      have q100_49_M7 : id (M7 100 49 = M 100 49) := eM7_100_49.trans q100_49_M4
      have q100_50_M7 : id (M7 100 50 = M 100 50) := eM7_100_50.trans q100_50_M4
      have q100_51_M7 : id (M7 100 51 = M 100 51) := eM7_100_51.trans q100_51_M4
      have q100_52_M7 : id (M7 100 52 = M 100 52) := eM7_100_52.trans q100_52_M4
      have q103_0_M7 : id (M7 103 0 = M 103 0) := eM7_103_0.trans q103_0_M4
      have q103_1_M7 : id (M7 103 1 = M 103 1) := eM7_103_1.trans q103_1_M4
      have q97_12_M7 : (M7 97 12 = M 97 12) := eM7_97_12.trans q97_12_M4
      clear eM7_100_0 eM7_100_1 eM7_100_2 eM7_100_3 eM7_100_49 eM7_100_50 eM7_100_51 eM7_100_52 eM7_103_0 eM7_103_1
      refine g_ireturn dX10_night_205 ?_
      exact ⟨iM7, fM7, q99_0_M7, q99_1_M7, q99_2_M7, q99_3_M7, q100_0_M7, q100_1_M7, q100_2_M7, q100_3_M7, q100_49_M7, q100_50_M7, q100_51_M7, q100_52_M7, q103_0_M7, q103_1_M7, q97_12_M7, by first | assumption | decide | omega⟩
    · refine g_aload_n (pc' := 169) 2 dX10_night_168 rfl rfl ?_
      refine g_getR (pc' := 172) dX10_night_169 rfl f_X10_74 rfl rfl ?_
      refine g_iload (pc' := 174) 1 dX10_night_172 rfl rfl ?_
      refine g_aload_n (pc' := 175) 2 dX10_night_174 rfl rfl ?_
      refine g_iload (pc' := 177) 1 dX10_night_175 rfl rfl ?_
      refine g_iconst (pc' := 178) dX10_night_177 rfl ?_
      refine g_idivP (pc' := 179) ⟨by omega, by omega⟩ (by decide) (by omega) (by omega) dX10_night_178 rfl ?_
      refine g_iload (pc' := 181) 1 dX10_night_179 rfl rfl ?_
      refine g_iconst (pc' := 182) dX10_night_181 rfl ?_
      refine g_iremP (pc' := 183) ⟨by omega, by omega⟩ (by decide) (by omega) (by omega) dX10_night_182 rfl ?_
      refine g_callVip (pc' := 186) (As := [vi (k / 4), vi (k % 4)]) (b := 97) (S := [vi k, vr X 116]) dX10_night_183 rfl m_X10_112 w_X10_tasteOf (c_X10_tasteOf X M1 ic1 (k / 4) ⟨by omega, by omega⟩ (k % 4) ⟨by omega, by omega⟩ (by omega) (by omega)) rfl ⟨_, _, _, rfl, rfl, rfl⟩ (by decide) (by decide) rfl (Nat.le_of_ble_eq_true rfl) (fun z9 q8 => ?_)
      refine g_iast (pc' := 187) dX10_night_186 rfl rfl (by omega) (by omega) ⟨by omega, by omega⟩ (fun M10 hM10 => ?_)
      have iM10 : IM M10 := IM.wr ic1 hM10 (by unfold okv; first | decide | omega)
      have fM10 : Fr (fun c => 97 ≤ c ∧ c ≤ 116) M M10 := Fr.wr fr1 hM10 (by first | decide | omega | (dsimp only; omega))
      have q99_0_M10 : (M10 99 0 = M 99 0) := (show M10 99 0 = M1 99 0 by rw [hM10]; exact mu_ne _ _ (by first | decide | omega)).trans q99_0
      have q99_1_M10 : (M10 99 1 = M 99 1) := (show M10 99 1 = M1 99 1 by rw [hM10]; exact mu_ne _ _ (by first | decide | omega)).trans q99_1
      have q99_2_M10 : (M10 99 2 = M 99 2) := (show M10 99 2 = M1 99 2 by rw [hM10]; exact mu_ne _ _ (by first | decide | omega)).trans q99_2
      have q99_3_M10 : (M10 99 3 = M 99 3) := (show M10 99 3 = M1 99 3 by rw [hM10]; exact mu_ne _ _ (by first | decide | omega)).trans q99_3
      have q100_0_M10 : id (M10 100 0 = M 100 0) := (show M10 100 0 = M1 100 0 by rw [hM10]; exact mu_ne _ _ (by first | decide | omega)).trans q100_0
      have q100_1_M10 : id (M10 100 1 = M 100 1) := (show M10 100 1 = M1 100 1 by rw [hM10]; exact mu_ne _ _ (by first | decide | omega)).trans q100_1
      have q100_2_M10 : id (M10 100 2 = M 100 2) := (show M10 100 2 = M1 100 2 by rw [hM10]; exact mu_ne _ _ (by first | decide | omega)).trans q100_2
      have q100_3_M10 : id (M10 100 3 = M 100 3) := (show M10 100 3 = M1 100 3 by rw [hM10]; exact mu_ne _ _ (by first | decide | omega)).trans q100_3
      have q100_49_M10 : id (M10 100 49 = M 100 49) := (show M10 100 49 = M1 100 49 by rw [hM10]; exact mu_ne _ _ (by first | decide | omega)).trans q100_49
      have q100_50_M10 : id (M10 100 50 = M 100 50) := (show M10 100 50 = M1 100 50 by rw [hM10]; exact mu_ne _ _ (by first | decide | omega)).trans q100_50
      have q100_51_M10 : id (M10 100 51 = M 100 51) := (show M10 100 51 = M1 100 51 by rw [hM10]; exact mu_ne _ _ (by first | decide | omega)).trans q100_51
      have q100_52_M10 : id (M10 100 52 = M 100 52) := (show M10 100 52 = M1 100 52 by rw [hM10]; exact mu_ne _ _ (by first | decide | omega)).trans q100_52
      have q103_0_M10 : id (M10 103 0 = M 103 0) := (show M10 103 0 = M1 103 0 by rw [hM10]; exact mu_ne _ _ (by first | decide | omega)).trans q103_0
      have q103_1_M10 : id (M10 103 1 = M 103 1) := (show M10 103 1 = M1 103 1 by rw [hM10]; exact mu_ne _ _ (by first | decide | omega)).trans q103_1
      have q97_12_M10 : (M10 97 12 = M 97 12) := (show M10 97 12 = M1 97 12 by rw [hM10]; exact mu_ne _ _ (by first | decide | omega)).trans q97_12
      have wM10_97_42 : M10 97 42 = M1 97 42 := by rw [hM10]; exact mu_ne _ _ (by first | decide | omega)
      have knM10 : ∀ j : Nat, j < 25 → M10 104 (275 + j) = M 101 j := fun j hj => by rw [hM10, mu_cell _ _ (by decide)]; exact kn j hj
      refine g_iinc (pc' := 190) (L' := [(4, vi (k + 1)), (3, vi md), (0, vr X 97)]) 1 dX10_night_187 rfl rfl (by decide) rfl ?_
      refine g_goto (tgt := 157) dX10_night_190 rfl ?_
      refine g_sub [1, 0, 2] rfl ?_
      exact ih _ (by omega) md (k + 1) M10 iM10 fM10 q99_0_M10 q99_1_M10 q99_2_M10 q99_3_M10 q100_0_M10 q100_1_M10 q100_2_M10 q100_3_M10 q100_49_M10 q100_50_M10 q100_51_M10 q100_52_M10 q103_0_M10 q103_1_M10 q97_12_M10 knM10 (by omega) (by omega) (by omega) rfl
set_option maxHeartbeats 4000000 in
set_option maxRecDepth 100000 in
theorem l_X10_night_53 (X : Cx) (M : Mm) (hi : IM M) (a : Int) (ha : inI a) (b : Int) (hb : inI b) : ∀ (kk : Nat) (md : Int) (k : Int) (M1 : Mm) (ic1 : IM M1) (fr1 : Fr (fun c => 97 ≤ c ∧ c ≤ 116) M M1) (q99_0 : (M1 99 0 = M 99 0)) (q99_1 : (M1 99 1 = M 99 1)) (q99_2 : (M1 99 2 = M 99 2)) (q99_3 : (M1 99 3 = M 99 3)) (q100_0 : id (M1 100 0 = M 100 0)) (q100_1 : id (M1 100 1 = M 100 1)) (q100_2 : id (M1 100 2 = M 100 2)) (q100_3 : id (M1 100 3 = M 100 3)) (q100_49 : id (M1 100 49 = M 100 49)) (q100_50 : id (M1 100 50 = M 100 50)) (q100_51 : id (M1 100 51 = M 100 51)) (q100_52 : id (M1 100 52 = M 100 52)) (q103_0 : id (M1 103 0 = M 103 0)) (q103_1 : id (M1 103 1 = M 103 1)) (q97_12 : (M1 97 12 = M 97 12)) (kn : ∀ j : Nat, j < 25 → M1 104 (275 + j) = M 101 j) (hm : 0 ≤ md ∧ md ≤ k) (h0 : 0 ≤ k) (h1 : k ≤ 20) (hst : 0 ≤ M1 97 42 ∧ M1 97 42 ≤ 1000003) (hb2 : 1 ≤ b ∧ b ≤ 20), (20 - k).toNat = kk → G X 12 RX10 cX10_night 7 (some .int) (Qi (fun r M1 => IM M1 ∧ Fr (fun c => 97 ≤ c ∧ c ≤ 116) M M1 ∧ M1 99 0 = M 99 0 ∧ M1 99 1 = M 99 1 ∧ M1 99 2 = M 99 2 ∧ M1 99 3 = M 99 3 ∧ M1 100 0 = M 100 0 ∧ M1 100 1 = M 100 1 ∧ M1 100 2 = M 100 2 ∧ M1 100 3 = M 100 3 ∧ M1 100 49 = M 100 49 ∧ M1 100 50 = M 100 50 ∧ M1 100 51 = M 100 51 ∧ M1 100 52 = M 100 52 ∧ M1 103 0 = M 103 0 ∧ M1 103 1 = M 103 1 ∧ M1 97 12 = M 97 12 ∧ (inI r))) 53 [(3, vi md), (4, vi k), (0, vr X 97), (2, vi b)] [] M1 := by
  intro kk
  induction kk using Nat.strongRecOn with
  | ind kk ih =>
    intro md k M1 ic1 fr1 q99_0 q99_1 q99_2 q99_3 q100_0 q100_1 q100_2 q100_3 q100_49 q100_50 q100_51 q100_52 q103_0 q103_1 q97_12 kn hm h0 h1 hst hb2 hmes
    have p0 := hi.1.1
    have p1 := hi.1.2.1
    have p2 := hi.1.2.2.1
    have p3 := hi.1.2.2.2.1
    have p12 := hi.2.2.2.1
    refine g_iload (pc' := 55) 1 dX10_night_53 rfl rfl ?_
    refine g_iload_n (pc' := 56) 3 dX10_night_55 rfl rfl ?_
    refine g_ic_ge (pc' := 59) (tgt := 144) ⟨by omega, by omega⟩ hb dX10_night_56 rfl rfl (fun c1 => ?_) (fun c1 => ?_)
    · refine g_aload_n (pc' := 145) 2 dX10_night_144 rfl rfl ?_
      refine g_aload_n (pc' := 146) 2 dX10_night_145 rfl rfl ?_
      refine g_getR (pc' := 149) dX10_night_146 rfl f_X10_13 rfl rfl ?_
      refine g_iconst (pc' := 150) dX10_night_149 rfl ?_
      refine g_iald (pc' := 151) dX10_night_150 rfl rfl (by decide) (by decide) (fun v2 ev2 rv2 => ?_)
      have ev2 : v2 = M1 99 0 := ev2
      have bv2 : 0 ≤ v2 ∧ v2 ≤ 6 := by rw [ev2]; exact ic1.1.1
      have av2 : v2 = M 99 0 := ev2.trans q99_0
      refine g_putI (pc' := 154) dX10_night_151 rfl p_X10_411 rfl rfl rv2 (fun M3 hM3 => ?_)
      have iM3 : IM M3 := IM.wr ic1 hM3 (by unfold okv; first | decide | omega)
      have fM3 : Fr (fun c => 97 ≤ c ∧ c ≤ 116) M M3 := Fr.wr fr1 hM3 (by first | decide | omega | (dsimp only; omega))
      have q99_0_M3 : (M3 99 0 = M 99 0) := (show M3 99 0 = M1 99 0 by rw [hM3]; exact mu_ne _ _ (by first | decide | omega)).trans q99_0
      have q99_1_M3 : (M3 99 1 = M 99 1) := (show M3 99 1 = M1 99 1 by rw [hM3]; exact mu_ne _ _ (by first | decide | omega)).trans q99_1
      have q99_2_M3 : (M3 99 2 = M 99 2) := (show M3 99 2 = M1 99 2 by rw [hM3]; exact mu_ne _ _ (by first | decide | omega)).trans q99_2
      have q99_3_M3 : (M3 99 3 = M 99 3) := (show M3 99 3 = M1 99 3 by rw [hM3]; exact mu_ne _ _ (by first | decide | omega)).trans q99_3
      have q100_0_M3 : id (M3 100 0 = M 100 0) := (show M3 100 0 = M1 100 0 by rw [hM3]; exact mu_ne _ _ (by first | decide | omega)).trans q100_0
      have q100_1_M3 : id (M3 100 1 = M 100 1) := (show M3 100 1 = M1 100 1 by rw [hM3]; exact mu_ne _ _ (by first | decide | omega)).trans q100_1
      have q100_2_M3 : id (M3 100 2 = M 100 2) := (show M3 100 2 = M1 100 2 by rw [hM3]; exact mu_ne _ _ (by first | decide | omega)).trans q100_2
      have q100_3_M3 : id (M3 100 3 = M 100 3) := (show M3 100 3 = M1 100 3 by rw [hM3]; exact mu_ne _ _ (by first | decide | omega)).trans q100_3
      have q100_49_M3 : id (M3 100 49 = M 100 49) := (show M3 100 49 = M1 100 49 by rw [hM3]; exact mu_ne _ _ (by first | decide | omega)).trans q100_49
      have q100_50_M3 : id (M3 100 50 = M 100 50) := (show M3 100 50 = M1 100 50 by rw [hM3]; exact mu_ne _ _ (by first | decide | omega)).trans q100_50
      have q100_51_M3 : id (M3 100 51 = M 100 51) := (show M3 100 51 = M1 100 51 by rw [hM3]; exact mu_ne _ _ (by first | decide | omega)).trans q100_51
      have q100_52_M3 : id (M3 100 52 = M 100 52) := (show M3 100 52 = M1 100 52 by rw [hM3]; exact mu_ne _ _ (by first | decide | omega)).trans q100_52
      have q103_0_M3 : id (M3 103 0 = M 103 0) := (show M3 103 0 = M1 103 0 by rw [hM3]; exact mu_ne _ _ (by first | decide | omega)).trans q103_0
      have q103_1_M3 : id (M3 103 1 = M 103 1) := (show M3 103 1 = M1 103 1 by rw [hM3]; exact mu_ne _ _ (by first | decide | omega)).trans q103_1
      have q97_12_M3 : (M3 97 12 = M 97 12) := (show M3 97 12 = M1 97 12 by rw [hM3]; exact mu_ne _ _ (by first | decide | omega)).trans q97_12
      have wM3_97_42 : M3 97 42 = M1 97 42 := by rw [hM3]; exact mu_ne _ _ (by first | decide | omega)
      have xM3_97_44 : M3 97 44 = v2 := by rw [hM3]; exact mu_at _ _ _ _
      have knM3 : ∀ j : Nat, j < 25 → M3 104 (275 + j) = M 101 j := fun j hj => by rw [hM3, mu_cell _ _ (by decide)]; exact kn j hj
      refine g_iconst (pc' := 155) dX10_night_154 rfl ?_
      refine g_istore (pc' := 157) (L' := [(4, vi 0), (3, vi md), (0, vr X 97), (2, vi b)]) dX10_night_155 rfl (by decide) rfl ?_
      refine g_sub [1, 0, 2] rfl ?_
      exact l_X10_night_157 X M hi a ha b hb _ md 0 M3 iM3 fM3 q99_0_M3 q99_1_M3 q99_2_M3 q99_3_M3 q100_0_M3 q100_1_M3 q100_2_M3 q100_3_M3 q100_49_M3 q100_50_M3 q100_51_M3 q100_52_M3 q103_0_M3 q103_1_M3 q97_12_M3 knM3 (by omega) (by omega) (by omega) rfl
    · refine g_aload_n (pc' := 60) 2 dX10_night_59 rfl rfl ?_
      refine g_getR (pc' := 63) dX10_night_60 rfl f_X10_13 rfl rfl ?_
      refine g_iconst (pc' := 64) dX10_night_63 rfl ?_
      refine g_iald (pc' := 65) dX10_night_64 rfl rfl (by decide) (by decide) (fun v4 ev4 rv4 => ?_)
      have ev4 : v4 = M1 99 0 := ev4
      have bv4 : 0 ≤ v4 ∧ v4 ≤ 6 := by rw [ev4]; exact ic1.1.1
      have av4 : v4 = M 99 0 := ev4.trans q99_0
      refine g_if_le (pc' := 68) (tgt := 144) rv4 dX10_night_65 rfl rfl (fun c5 => ?_) (fun c5 => ?_)
      · refine g_aload_n (pc' := 145) 2 dX10_night_144 rfl rfl ?_
        refine g_aload_n (pc' := 146) 2 dX10_night_145 rfl rfl ?_
        refine g_getR (pc' := 149) dX10_night_146 rfl f_X10_13 rfl rfl ?_
        refine g_iconst (pc' := 150) dX10_night_149 rfl ?_
        refine g_iald (pc' := 151) dX10_night_150 rfl rfl (by decide) (by decide) (fun v6 ev6 rv6 => ?_)
        have ev6 : v6 = M1 99 0 := ev6
        obtain rfl : v4 = v6 := ev4.trans ev6.symm
        refine g_putI (pc' := 154) dX10_night_151 rfl p_X10_411 rfl rfl rv4 (fun M7 hM7 => ?_)
        have iM7 : IM M7 := IM.wr ic1 hM7 (by unfold okv; first | decide | omega)
        have fM7 : Fr (fun c => 97 ≤ c ∧ c ≤ 116) M M7 := Fr.wr fr1 hM7 (by first | decide | omega | (dsimp only; omega))
        have q99_0_M7 : (M7 99 0 = M 99 0) := (show M7 99 0 = M1 99 0 by rw [hM7]; exact mu_ne _ _ (by first | decide | omega)).trans q99_0
        have q99_1_M7 : (M7 99 1 = M 99 1) := (show M7 99 1 = M1 99 1 by rw [hM7]; exact mu_ne _ _ (by first | decide | omega)).trans q99_1
        have q99_2_M7 : (M7 99 2 = M 99 2) := (show M7 99 2 = M1 99 2 by rw [hM7]; exact mu_ne _ _ (by first | decide | omega)).trans q99_2
        have q99_3_M7 : (M7 99 3 = M 99 3) := (show M7 99 3 = M1 99 3 by rw [hM7]; exact mu_ne _ _ (by first | decide | omega)).trans q99_3
        have q100_0_M7 : id (M7 100 0 = M 100 0) := (show M7 100 0 = M1 100 0 by rw [hM7]; exact mu_ne _ _ (by first | decide | omega)).trans q100_0
        have q100_1_M7 : id (M7 100 1 = M 100 1) := (show M7 100 1 = M1 100 1 by rw [hM7]; exact mu_ne _ _ (by first | decide | omega)).trans q100_1
        have q100_2_M7 : id (M7 100 2 = M 100 2) := (show M7 100 2 = M1 100 2 by rw [hM7]; exact mu_ne _ _ (by first | decide | omega)).trans q100_2
        have q100_3_M7 : id (M7 100 3 = M 100 3) := (show M7 100 3 = M1 100 3 by rw [hM7]; exact mu_ne _ _ (by first | decide | omega)).trans q100_3
        have q100_49_M7 : id (M7 100 49 = M 100 49) := (show M7 100 49 = M1 100 49 by rw [hM7]; exact mu_ne _ _ (by first | decide | omega)).trans q100_49
        have q100_50_M7 : id (M7 100 50 = M 100 50) := (show M7 100 50 = M1 100 50 by rw [hM7]; exact mu_ne _ _ (by first | decide | omega)).trans q100_50
        have q100_51_M7 : id (M7 100 51 = M 100 51) := (show M7 100 51 = M1 100 51 by rw [hM7]; exact mu_ne _ _ (by first | decide | omega)).trans q100_51
        have q100_52_M7 : id (M7 100 52 = M 100 52) := (show M7 100 52 = M1 100 52 by rw [hM7]; exact mu_ne _ _ (by first | decide | omega)).trans q100_52
        have q103_0_M7 : id (M7 103 0 = M 103 0) := (show M7 103 0 = M1 103 0 by rw [hM7]; exact mu_ne _ _ (by first | decide | omega)).trans q103_0
        have q103_1_M7 : id (M7 103 1 = M 103 1) := (show M7 103 1 = M1 103 1 by rw [hM7]; exact mu_ne _ _ (by first | decide | omega)).trans q103_1
        have q97_12_M7 : (M7 97 12 = M 97 12) := (show M7 97 12 = M1 97 12 by rw [hM7]; exact mu_ne _ _ (by first | decide | omega)).trans q97_12
        have wM7_97_42 : M7 97 42 = M1 97 42 := by rw [hM7]; exact mu_ne _ _ (by first | decide | omega)
        have xM7_97_44 : M7 97 44 = v4 := by rw [hM7]; exact mu_at _ _ _ _
        have knM7 : ∀ j : Nat, j < 25 → M7 104 (275 + j) = M 101 j := fun j hj => by rw [hM7, mu_cell _ _ (by decide)]; exact kn j hj
        refine g_iconst (pc' := 155) dX10_night_154 rfl ?_
        refine g_istore (pc' := 157) (L' := [(4, vi 0), (3, vi md), (0, vr X 97), (2, vi b)]) dX10_night_155 rfl (by decide) rfl ?_
        refine g_sub [1, 0, 2] rfl ?_
        exact l_X10_night_157 X M hi a ha b hb _ md 0 M7 iM7 fM7 q99_0_M7 q99_1_M7 q99_2_M7 q99_3_M7 q100_0_M7 q100_1_M7 q100_2_M7 q100_3_M7 q100_49_M7 q100_50_M7 q100_51_M7 q100_52_M7 q103_0_M7 q103_1_M7 q97_12_M7 knM7 (by omega) (by omega) (by omega) rfl
      · refine g_aload_n (pc' := 69) 2 dX10_night_68 rfl rfl ?_
        refine g_getR (pc' := 72) dX10_night_69 rfl f_X10_13 rfl rfl ?_
        refine g_iconst (pc' := 73) dX10_night_72 rfl ?_
        refine g_iald (pc' := 74) dX10_night_73 rfl rfl (by decide) (by decide) (fun v8 ev8 rv8 => ?_)
        have ev8 : v8 = M1 99 1 := ev8
        have bv8 : 0 ≤ v8 ∧ v8 ≤ 3 := by rw [ev8]; exact ic1.1.2.1
        have av8 : v8 = M 99 1 := ev8.trans q99_1
        refine g_if_le (pc' := 77) (tgt := 144) rv8 dX10_night_74 rfl rfl (fun c9 => ?_) (fun c9 => ?_)
        · refine g_aload_n (pc' := 145) 2 dX10_night_144 rfl rfl ?_
          refine g_aload_n (pc' := 146) 2 dX10_night_145 rfl rfl ?_
          refine g_getR (pc' := 149) dX10_night_146 rfl f_X10_13 rfl rfl ?_
          refine g_iconst (pc' := 150) dX10_night_149 rfl ?_
          refine g_iald (pc' := 151) dX10_night_150 rfl rfl (by decide) (by decide) (fun v10 ev10 rv10 => ?_)
          have ev10 : v10 = M1 99 0 := ev10
          obtain rfl : v4 = v10 := ev4.trans ev10.symm
          refine g_putI (pc' := 154) dX10_night_151 rfl p_X10_411 rfl rfl rv4 (fun M11 hM11 => ?_)
          have iM11 : IM M11 := IM.wr ic1 hM11 (by unfold okv; first | decide | omega)
          have fM11 : Fr (fun c => 97 ≤ c ∧ c ≤ 116) M M11 := Fr.wr fr1 hM11 (by first | decide | omega | (dsimp only; omega))
          have q99_0_M11 : (M11 99 0 = M 99 0) := (show M11 99 0 = M1 99 0 by rw [hM11]; exact mu_ne _ _ (by first | decide | omega)).trans q99_0
          have q99_1_M11 : (M11 99 1 = M 99 1) := (show M11 99 1 = M1 99 1 by rw [hM11]; exact mu_ne _ _ (by first | decide | omega)).trans q99_1
          have q99_2_M11 : (M11 99 2 = M 99 2) := (show M11 99 2 = M1 99 2 by rw [hM11]; exact mu_ne _ _ (by first | decide | omega)).trans q99_2
          have q99_3_M11 : (M11 99 3 = M 99 3) := (show M11 99 3 = M1 99 3 by rw [hM11]; exact mu_ne _ _ (by first | decide | omega)).trans q99_3
          have q100_0_M11 : id (M11 100 0 = M 100 0) := (show M11 100 0 = M1 100 0 by rw [hM11]; exact mu_ne _ _ (by first | decide | omega)).trans q100_0
          have q100_1_M11 : id (M11 100 1 = M 100 1) := (show M11 100 1 = M1 100 1 by rw [hM11]; exact mu_ne _ _ (by first | decide | omega)).trans q100_1
          have q100_2_M11 : id (M11 100 2 = M 100 2) := (show M11 100 2 = M1 100 2 by rw [hM11]; exact mu_ne _ _ (by first | decide | omega)).trans q100_2
          have q100_3_M11 : id (M11 100 3 = M 100 3) := (show M11 100 3 = M1 100 3 by rw [hM11]; exact mu_ne _ _ (by first | decide | omega)).trans q100_3
          have q100_49_M11 : id (M11 100 49 = M 100 49) := (show M11 100 49 = M1 100 49 by rw [hM11]; exact mu_ne _ _ (by first | decide | omega)).trans q100_49
          have q100_50_M11 : id (M11 100 50 = M 100 50) := (show M11 100 50 = M1 100 50 by rw [hM11]; exact mu_ne _ _ (by first | decide | omega)).trans q100_50
          have q100_51_M11 : id (M11 100 51 = M 100 51) := (show M11 100 51 = M1 100 51 by rw [hM11]; exact mu_ne _ _ (by first | decide | omega)).trans q100_51
          have q100_52_M11 : id (M11 100 52 = M 100 52) := (show M11 100 52 = M1 100 52 by rw [hM11]; exact mu_ne _ _ (by first | decide | omega)).trans q100_52
          have q103_0_M11 : id (M11 103 0 = M 103 0) := (show M11 103 0 = M1 103 0 by rw [hM11]; exact mu_ne _ _ (by first | decide | omega)).trans q103_0
          have q103_1_M11 : id (M11 103 1 = M 103 1) := (show M11 103 1 = M1 103 1 by rw [hM11]; exact mu_ne _ _ (by first | decide | omega)).trans q103_1
          have q97_12_M11 : (M11 97 12 = M 97 12) := (show M11 97 12 = M1 97 12 by rw [hM11]; exact mu_ne _ _ (by first | decide | omega)).trans q97_12
          have wM11_97_42 : M11 97 42 = M1 97 42 := by rw [hM11]; exact mu_ne _ _ (by first | decide | omega)
          have xM11_97_44 : M11 97 44 = v4 := by rw [hM11]; exact mu_at _ _ _ _
          have knM11 : ∀ j : Nat, j < 25 → M11 104 (275 + j) = M 101 j := fun j hj => by rw [hM11, mu_cell _ _ (by decide)]; exact kn j hj
          refine g_iconst (pc' := 155) dX10_night_154 rfl ?_
          refine g_istore (pc' := 157) (L' := [(4, vi 0), (3, vi md), (0, vr X 97), (2, vi b)]) dX10_night_155 rfl (by decide) rfl ?_
          refine g_sub [1, 0, 2] rfl ?_
          exact l_X10_night_157 X M hi a ha b hb _ md 0 M11 iM11 fM11 q99_0_M11 q99_1_M11 q99_2_M11 q99_3_M11 q100_0_M11 q100_1_M11 q100_2_M11 q100_3_M11 q100_49_M11 q100_50_M11 q100_51_M11 q100_52_M11 q103_0_M11 q103_1_M11 q97_12_M11 knM11 (by omega) (by omega) (by omega) rfl
        · refine g_aload_n (pc' := 78) 2 dX10_night_77 rfl rfl ?_
          refine g_aload_n (pc' := 79) 2 dX10_night_78 rfl rfl ?_
          refine g_getR (pc' := 82) dX10_night_79 rfl f_X10_13 rfl rfl ?_
          refine g_iconst (pc' := 83) dX10_night_82 rfl ?_
          refine g_iald (pc' := 84) dX10_night_83 rfl rfl (by decide) (by decide) (fun v12 ev12 rv12 => ?_)
          have ev12 : v12 = M1 99 0 := ev12
          obtain rfl : v4 = v12 := ev4.trans ev12.symm
          refine g_callVi (pc' := 87) (As := [vi v4]) (b := 97) (S := []) dX10_night_84 rfl m_X10_408 w_X10_draw (c_X10_draw X M1 ic1 v4 rv4 (by omega) (by omega)) rfl ⟨_, _, _, rfl, rfl, rfl⟩ (by decide) (by decide) rfl (Nat.le_of_ble_eq_true rfl) (fun z14 M15 q13 => ?_)
          obtain ⟨iM15, fM150, eM15_99_0, eM15_99_1, eM15_99_2, eM15_99_3, eM15_100_0, eM15_100_1, eM15_100_2, eM15_100_3, eM15_100_49, eM15_100_50, eM15_100_51, eM15_100_52, eM15_103_0, eM15_103_1, eM15_97_12, pM15⟩ := q13
          have fM15 : Fr (fun c => 97 ≤ c ∧ c ≤ 116) M M15 := Fr.tr fr1 fM150 fi_26
          have q99_0_M15 : (M15 99 0 = M 99 0) := eM15_99_0.trans q99_0
          have q99_1_M15 : (M15 99 1 = M 99 1) := eM15_99_1.trans q99_1
          have q99_2_M15 : (M15 99 2 = M 99 2) := eM15_99_2.trans q99_2
          have q99_3_M15 : (M15 99 3 = M 99 3) := eM15_99_3.trans q99_3
          have q100_0_M15 : id (M15 100 0 = M 100 0) := eM15_100_0.trans q100_0
          have q100_1_M15 : id (M15 100 1 = M 100 1) := eM15_100_1.trans q100_1
          have q100_2_M15 : id (M15 100 2 = M 100 2) := eM15_100_2.trans q100_2
          have q100_3_M15 : id (M15 100 3 = M 100 3) := eM15_100_3.trans q100_3
          have q100_49_M15 : id (M15 100 49 = M 100 49) := eM15_100_49.trans q100_49
          have q100_50_M15 : id (M15 100 50 = M 100 50) := eM15_100_50.trans q100_50
          have q100_51_M15 : id (M15 100 51 = M 100 51) := eM15_100_51.trans q100_51
          have q100_52_M15 : id (M15 100 52 = M 100 52) := eM15_100_52.trans q100_52
          have q103_0_M15 : id (M15 103 0 = M 103 0) := eM15_103_0.trans q103_0
          have q103_1_M15 : id (M15 103 1 = M 103 1) := eM15_103_1.trans q103_1
          have q97_12_M15 : (M15 97 12 = M 97 12) := eM15_97_12.trans q97_12
          clear eM15_100_0 eM15_100_1 eM15_100_2 eM15_100_3 eM15_100_49 eM15_100_50 eM15_100_51 eM15_100_52 eM15_103_0 eM15_103_1
          have knM15 : ∀ j : Nat, j < 25 → M15 104 (275 + j) = M 101 j := fun j hj => (congrFun (fM150 104 (by omega)) (275 + j)).trans (kn j hj)
          refine g_istore (pc' := 89) (L' := [(5, vi z14), (3, vi md), (4, vi k), (0, vr X 97), (2, vi b)]) dX10_night_87 rfl (by decide) rfl ?_
          refine g_aload_n (pc' := 90) 3 dX10_night_89 rfl rfl ?_
          refine g_aload_n (pc' := 91) 3 dX10_night_90 rfl rfl ?_
          refine g_getR (pc' := 94) dX10_night_91 rfl f_X10_13 rfl rfl ?_
          refine g_iconst (pc' := 95) dX10_night_94 rfl ?_
          refine g_iald (pc' := 96) dX10_night_95 rfl rfl (by decide) (by decide) (fun v16 ev16 rv16 => ?_)
          have ev16 : v16 = M15 99 0 := ev16
          have bv16 : 0 ≤ v16 ∧ v16 ≤ 6 := by rw [ev16]; exact iM15.1.1
          have av16 : v16 = M 99 0 := ev16.trans q99_0_M15
          obtain rfl : v4 = v16 := av4.trans av16.symm
          refine g_callVi (pc' := 99) (As := [vi v4]) (b := 97) (S := []) dX10_night_96 rfl m_X10_408 w_X10_draw (c_X10_draw X M15 iM15 v4 rv16 (by omega) (by omega)) rfl ⟨_, _, _, rfl, rfl, rfl⟩ (by decide) (by decide) rfl (Nat.le_of_ble_eq_true rfl) (fun z18 M19 q17 => ?_)
          obtain ⟨iM19, fM190, eM19_99_0, eM19_99_1, eM19_99_2, eM19_99_3, eM19_100_0, eM19_100_1, eM19_100_2, eM19_100_3, eM19_100_49, eM19_100_50, eM19_100_51, eM19_100_52, eM19_103_0, eM19_103_1, eM19_97_12, pM19⟩ := q17
          have fM19 : Fr (fun c => 97 ≤ c ∧ c ≤ 116) M M19 := Fr.tr fM15 fM190 fi_26
          have q99_0_M19 : (M19 99 0 = M 99 0) := eM19_99_0.trans q99_0_M15
          have q99_1_M19 : (M19 99 1 = M 99 1) := eM19_99_1.trans q99_1_M15
          have q99_2_M19 : (M19 99 2 = M 99 2) := eM19_99_2.trans q99_2_M15
          have q99_3_M19 : (M19 99 3 = M 99 3) := eM19_99_3.trans q99_3_M15
          have q100_0_M19 : id (M19 100 0 = M 100 0) := eM19_100_0.trans q100_0_M15
          have q100_1_M19 : id (M19 100 1 = M 100 1) := eM19_100_1.trans q100_1_M15
          have q100_2_M19 : id (M19 100 2 = M 100 2) := eM19_100_2.trans q100_2_M15
          have q100_3_M19 : id (M19 100 3 = M 100 3) := eM19_100_3.trans q100_3_M15
          have q100_49_M19 : id (M19 100 49 = M 100 49) := eM19_100_49.trans q100_49_M15
          have q100_50_M19 : id (M19 100 50 = M 100 50) := eM19_100_50.trans q100_50_M15
          have q100_51_M19 : id (M19 100 51 = M 100 51) := eM19_100_51.trans q100_51_M15
          have q100_52_M19 : id (M19 100 52 = M 100 52) := eM19_100_52.trans q100_52_M15
          have q103_0_M19 : id (M19 103 0 = M 103 0) := eM19_103_0.trans q103_0_M15
          have q103_1_M19 : id (M19 103 1 = M 103 1) := eM19_103_1.trans q103_1_M15
          have q97_12_M19 : (M19 97 12 = M 97 12) := eM19_97_12.trans q97_12_M15
          clear eM19_100_0 eM19_100_1 eM19_100_2 eM19_100_3 eM19_100_49 eM19_100_50 eM19_100_51 eM19_100_52 eM19_103_0 eM19_103_1
          have knM19 : ∀ j : Nat, j < 25 → M19 104 (275 + j) = M 101 j := fun j hj => (congrFun (fM190 104 (by omega)) (275 + j)).trans (knM15 j hj)
          refine g_istore (pc' := 101) (L' := [(6, vi z18), (5, vi z14), (3, vi md), (4, vi k), (0, vr X 97), (2, vi b)]) dX10_night_99 rfl (by decide) rfl ?_
          refine g_iload_n (pc' := 102) 2 dX10_night_101 rfl rfl ?_
          refine g_aload_n (pc' := 103) 4 dX10_night_102 rfl rfl ?_
          refine g_iload (pc' := 105) 1 dX10_night_103 rfl rfl ?_
          refine g_iload (pc' := 107) 0 dX10_night_105 rfl rfl ?_
          refine g_aload_n (pc' := 108) 4 dX10_night_107 rfl rfl ?_
          refine g_getR (pc' := 111) dX10_night_108 rfl f_X10_13 rfl rfl ?_
          refine g_bipush (pc' := 113) (v := 10) dX10_night_111 rfl (by decide) ?_
          refine g_aload_n (pc' := 114) 4 dX10_night_113 rfl rfl ?_
          refine g_aload_n (pc' := 115) 4 dX10_night_114 rfl rfl ?_
          refine g_getR (pc' := 118) dX10_night_115 rfl f_X10_13 rfl rfl ?_
          refine g_iconst (pc' := 119) dX10_night_118 rfl ?_
          refine g_iald (pc' := 120) dX10_night_119 rfl rfl (by decide) (by decide) (fun v20 ev20 rv20 => ?_)
          have ev20 : v20 = M19 99 1 := ev20
          have bv20 : 0 ≤ v20 ∧ v20 ≤ 3 := by rw [ev20]; exact iM19.1.2.1
          have av20 : v20 = M 99 1 := ev20.trans q99_1_M19
          obtain rfl : v8 = v20 := av8.trans av20.symm
          refine g_callVi (pc' := 123) (As := [vi v8]) (b := 97) (S := [vi 10, vr X 99, vi z18, vi z14, vr X 97, vi md]) dX10_night_120 rfl m_X10_408 w_X10_draw (c_X10_draw X M19 iM19 v8 rv20 (by omega) (by omega)) rfl ⟨_, _, _, rfl, rfl, rfl⟩ (by decide) (by decide) rfl (Nat.le_of_ble_eq_true rfl) (fun z22 M23 q21 => ?_)
          obtain ⟨iM23, fM230, eM23_99_0, eM23_99_1, eM23_99_2, eM23_99_3, eM23_100_0, eM23_100_1, eM23_100_2, eM23_100_3, eM23_100_49, eM23_100_50, eM23_100_51, eM23_100_52, eM23_103_0, eM23_103_1, eM23_97_12, pM23⟩ := q21
          have fM23 : Fr (fun c => 97 ≤ c ∧ c ≤ 116) M M23 := Fr.tr fM19 fM230 fi_26
          have q99_0_M23 : (M23 99 0 = M 99 0) := eM23_99_0.trans q99_0_M19
          have q99_1_M23 : (M23 99 1 = M 99 1) := eM23_99_1.trans q99_1_M19
          have q99_2_M23 : (M23 99 2 = M 99 2) := eM23_99_2.trans q99_2_M19
          have q99_3_M23 : (M23 99 3 = M 99 3) := eM23_99_3.trans q99_3_M19
          have q100_0_M23 : id (M23 100 0 = M 100 0) := eM23_100_0.trans q100_0_M19
          have q100_1_M23 : id (M23 100 1 = M 100 1) := eM23_100_1.trans q100_1_M19
          have q100_2_M23 : id (M23 100 2 = M 100 2) := eM23_100_2.trans q100_2_M19
          have q100_3_M23 : id (M23 100 3 = M 100 3) := eM23_100_3.trans q100_3_M19
          have q100_49_M23 : id (M23 100 49 = M 100 49) := eM23_100_49.trans q100_49_M19
          have q100_50_M23 : id (M23 100 50 = M 100 50) := eM23_100_50.trans q100_50_M19
          have q100_51_M23 : id (M23 100 51 = M 100 51) := eM23_100_51.trans q100_51_M19
          have q100_52_M23 : id (M23 100 52 = M 100 52) := eM23_100_52.trans q100_52_M19
          have q103_0_M23 : id (M23 103 0 = M 103 0) := eM23_103_0.trans q103_0_M19
          have q103_1_M23 : id (M23 103 1 = M 103 1) := eM23_103_1.trans q103_1_M19
          have q97_12_M23 : (M23 97 12 = M 97 12) := eM23_97_12.trans q97_12_M19
          clear eM23_100_0 eM23_100_1 eM23_100_2 eM23_100_3 eM23_100_49 eM23_100_50 eM23_100_51 eM23_100_52 eM23_103_0 eM23_103_1
          have knM23 : ∀ j : Nat, j < 25 → M23 104 (275 + j) = M 101 j := fun j hj => (congrFun (fM230 104 (by omega)) (275 + j)).trans (knM19 j hj)
          refine g_iadd (pc' := 124) dX10_night_123 rfl ?_
          refine g_iald (pc' := 125) dX10_night_124 rfl rfl (by omega) (by omega) (fun v24 ev24 rv24 => ?_)
          have dv24 : 1 ≤ v24 ∧ v24 ≤ 60 := by rw [ev24]; exact iM23.1.sp (by omega) (by omega)
          refine g_callVi (pc' := 128) (As := [vi z14, vi z18, vi v24]) (b := 97) (S := [vi md]) dX10_night_125 rfl m_X10_139 w_X10_spooned (c_X10_spooned X M23 iM23 z14 ⟨by omega, by omega⟩ z18 ⟨by omega, by omega⟩ v24 rv24 (by omega) (by omega) (by omega)) rfl ⟨_, _, _, rfl, rfl, rfl⟩ (by decide) (by decide) rfl (Nat.le_of_ble_eq_true rfl) (fun z26 M27 q25 => ?_)
          obtain ⟨iM27, fM270, pM27⟩ := q25
          have fM27 : Fr (fun c => 97 ≤ c ∧ c ≤ 116) M M27 := Fr.tr fM23 fM270 fi_25
          have q99_0_M27 : (M27 99 0 = M 99 0) := (congrFun (fM270 99 (by first | decide | omega | (dsimp only; omega))) 0).trans q99_0_M23
          have q99_1_M27 : (M27 99 1 = M 99 1) := (congrFun (fM270 99 (by first | decide | omega | (dsimp only; omega))) 1).trans q99_1_M23
          have q99_2_M27 : (M27 99 2 = M 99 2) := (congrFun (fM270 99 (by first | decide | omega | (dsimp only; omega))) 2).trans q99_2_M23
          have q99_3_M27 : (M27 99 3 = M 99 3) := (congrFun (fM270 99 (by first | decide | omega | (dsimp only; omega))) 3).trans q99_3_M23
          have q100_0_M27 : id (M27 100 0 = M 100 0) := (congrFun (fM270 100 (by first | decide | omega | (dsimp only; omega))) 0).trans q100_0_M23
          have q100_1_M27 : id (M27 100 1 = M 100 1) := (congrFun (fM270 100 (by first | decide | omega | (dsimp only; omega))) 1).trans q100_1_M23
          have q100_2_M27 : id (M27 100 2 = M 100 2) := (congrFun (fM270 100 (by first | decide | omega | (dsimp only; omega))) 2).trans q100_2_M23
          have q100_3_M27 : id (M27 100 3 = M 100 3) := (congrFun (fM270 100 (by first | decide | omega | (dsimp only; omega))) 3).trans q100_3_M23
          have q100_49_M27 : id (M27 100 49 = M 100 49) := (congrFun (fM270 100 (by first | decide | omega | (dsimp only; omega))) 49).trans q100_49_M23
          have q100_50_M27 : id (M27 100 50 = M 100 50) := (congrFun (fM270 100 (by first | decide | omega | (dsimp only; omega))) 50).trans q100_50_M23
          have q100_51_M27 : id (M27 100 51 = M 100 51) := (congrFun (fM270 100 (by first | decide | omega | (dsimp only; omega))) 51).trans q100_51_M23
          have q100_52_M27 : id (M27 100 52 = M 100 52) := (congrFun (fM270 100 (by first | decide | omega | (dsimp only; omega))) 52).trans q100_52_M23
          have q103_0_M27 : id (M27 103 0 = M 103 0) := (congrFun (fM270 103 (by first | decide | omega | (dsimp only; omega))) 0).trans q103_0_M23
          have q103_1_M27 : id (M27 103 1 = M 103 1) := (congrFun (fM270 103 (by first | decide | omega | (dsimp only; omega))) 1).trans q103_1_M23
          have q97_12_M27 : (M27 97 12 = M 97 12) := (congrFun (fM270 97 (by first | decide | omega | (dsimp only; omega))) 12).trans q97_12_M23
          have wM27_97_42 : M27 97 42 = M23 97 42 := (congrFun (fM270 97 (by first | decide | omega | (dsimp only; omega))) 42)
          have knM27 : ∀ j : Nat, j < 25 → M27 104 (275 + j) = M 101 j := fun j hj => (pM27.2 (275 + j) (by omega)).trans (knM23 j hj)
          refine g_if_ne (pc' := 131) (tgt := 135) ⟨by omega, by omega⟩ dX10_night_128 rfl rfl (fun c28 => ?_) (fun c28 => ?_)
          · refine g_iconst (pc' := 136) dX10_night_135 rfl ?_
            refine g_iadd (pc' := 137) dX10_night_136 rfl ?_
            obtain ⟨x29, ex29⟩ : ∃ z : Int, z = md + 0 := ⟨_, rfl⟩
            rw [← ex29]
            refine g_istore_n (pc' := 138) (i := 3) (L' := [(3, vi x29), (6, vi z18), (5, vi z14), (4, vi k), (0, vr X 97), (2, vi b)]) dX10_night_137 rfl rfl (by decide) rfl ?_
            refine g_iinc (pc' := 141) (L' := [(4, vi (k + 1)), (3, vi x29), (6, vi z18), (5, vi z14), (0, vr X 97), (2, vi b)]) 3 dX10_night_138 rfl rfl (by decide) rfl ?_
            refine g_goto (tgt := 53) dX10_night_141 rfl ?_
            refine g_sub [1, 0, 4, 5] rfl ?_
            exact ih _ (by omega) x29 (k + 1) M27 iM27 fM27 q99_0_M27 q99_1_M27 q99_2_M27 q99_3_M27 q100_0_M27 q100_1_M27 q100_2_M27 q100_3_M27 q100_49_M27 q100_50_M27 q100_51_M27 q100_52_M27 q103_0_M27 q103_1_M27 q97_12_M27 knM27 (by omega) (by omega) (by omega) (by omega) (by omega) rfl
          · refine g_iconst (pc' := 132) dX10_night_131 rfl ?_
            refine g_goto (tgt := 136) dX10_night_132 rfl ?_
            refine g_iadd (pc' := 137) dX10_night_136 rfl ?_
            obtain ⟨x30, ex30⟩ : ∃ z : Int, z = md + 1 := ⟨_, rfl⟩
            rw [← ex30]
            refine g_istore_n (pc' := 138) (i := 3) (L' := [(3, vi x30), (6, vi z18), (5, vi z14), (4, vi k), (0, vr X 97), (2, vi b)]) dX10_night_137 rfl rfl (by decide) rfl ?_
            refine g_iinc (pc' := 141) (L' := [(4, vi (k + 1)), (3, vi x30), (6, vi z18), (5, vi z14), (0, vr X 97), (2, vi b)]) 3 dX10_night_138 rfl rfl (by decide) rfl ?_
            refine g_goto (tgt := 53) dX10_night_141 rfl ?_
            refine g_sub [1, 0, 4, 5] rfl ?_
            exact ih _ (by omega) x30 (k + 1) M27 iM27 fM27 q99_0_M27 q99_1_M27 q99_2_M27 q99_3_M27 q100_0_M27 q100_1_M27 q100_2_M27 q100_3_M27 q100_49_M27 q100_50_M27 q100_51_M27 q100_52_M27 q103_0_M27 q103_1_M27 q97_12_M27 knM27 (by omega) (by omega) (by omega) (by omega) (by omega) rfl
set_option maxHeartbeats 4000000 in
set_option maxRecDepth 100000 in
theorem c_X10_night (X : Cx) (M : Mm) (hi : IM M) (a : Int) (ha : inI a) (b : Int) (hb : inI b) : Con X 12 yX10_night cX10_night 7 (some .int) [vr X 97, vi a, vi b] M (Qi (fun r M1 => IM M1 ∧ Fr (fun c => 97 ≤ c ∧ c ≤ 116) M M1 ∧ M1 99 0 = M 99 0 ∧ M1 99 1 = M 99 1 ∧ M1 99 2 = M 99 2 ∧ M1 99 3 = M 99 3 ∧ M1 100 0 = M 100 0 ∧ M1 100 1 = M 100 1 ∧ M1 100 2 = M 100 2 ∧ M1 100 3 = M 100 3 ∧ M1 100 49 = M 100 49 ∧ M1 100 50 = M 100 50 ∧ M1 100 51 = M 100 51 ∧ M1 100 52 = M 100 52 ∧ M1 103 0 = M 103 0 ∧ M1 103 1 = M 103 1 ∧ M1 97 12 = M 97 12 ∧ (inI r))) := by
  refine Con.ofG rfl (Nat.le_of_ble_eq_true rfl) ?_
  show G X 12 RX10 cX10_night 7 (some .int) (Qi (fun r M1 => IM M1 ∧ Fr (fun c => 97 ≤ c ∧ c ≤ 116) M M1 ∧ M1 99 0 = M 99 0 ∧ M1 99 1 = M 99 1 ∧ M1 99 2 = M 99 2 ∧ M1 99 3 = M 99 3 ∧ M1 100 0 = M 100 0 ∧ M1 100 1 = M 100 1 ∧ M1 100 2 = M 100 2 ∧ M1 100 3 = M 100 3 ∧ M1 100 49 = M 100 49 ∧ M1 100 50 = M 100 50 ∧ M1 100 51 = M 100 51 ∧ M1 100 52 = M 100 52 ∧ M1 103 0 = M 103 0 ∧ M1 103 1 = M 103 1 ∧ M1 97 12 = M 97 12 ∧ (inI r))) 0 [(0, vr X 97), (1, vi a), (2, vi b)] [] M
  have p0 := hi.1.1
  have p1 := hi.1.2.1
  have p2 := hi.1.2.2.1
  have p3 := hi.1.2.2.2.1
  have p12 := hi.2.2.2.1
  refine g_aload_n (pc' := 1) 0 dX10_night_0 rfl rfl ?_
  refine g_iconst (pc' := 2) dX10_night_1 rfl ?_
  refine g_putI (pc' := 5) dX10_night_2 rfl p_X10_77 rfl rfl (by decide) (fun M1 hM1 => ?_)
  have iM1 : IM M1 := IM.wr hi hM1 (by unfold okv; first | decide | omega)
  have fM1 : Fr (fun c => 97 ≤ c ∧ c ≤ 116) M M1 := Fr.wr Fr.rf hM1 (by first | decide | omega | (dsimp only; omega))
  have q99_0_M1 : (M1 99 0 = M 99 0) := (show M1 99 0 = M 99 0 by rw [hM1]; exact mu_ne _ _ (by first | decide | omega))
  have q99_1_M1 : (M1 99 1 = M 99 1) := (show M1 99 1 = M 99 1 by rw [hM1]; exact mu_ne _ _ (by first | decide | omega))
  have q99_2_M1 : (M1 99 2 = M 99 2) := (show M1 99 2 = M 99 2 by rw [hM1]; exact mu_ne _ _ (by first | decide | omega))
  have q99_3_M1 : (M1 99 3 = M 99 3) := (show M1 99 3 = M 99 3 by rw [hM1]; exact mu_ne _ _ (by first | decide | omega))
  have q100_0_M1 : id (M1 100 0 = M 100 0) := (show M1 100 0 = M 100 0 by rw [hM1]; exact mu_ne _ _ (by first | decide | omega))
  have q100_1_M1 : id (M1 100 1 = M 100 1) := (show M1 100 1 = M 100 1 by rw [hM1]; exact mu_ne _ _ (by first | decide | omega))
  have q100_2_M1 : id (M1 100 2 = M 100 2) := (show M1 100 2 = M 100 2 by rw [hM1]; exact mu_ne _ _ (by first | decide | omega))
  have q100_3_M1 : id (M1 100 3 = M 100 3) := (show M1 100 3 = M 100 3 by rw [hM1]; exact mu_ne _ _ (by first | decide | omega))
  have q100_49_M1 : id (M1 100 49 = M 100 49) := (show M1 100 49 = M 100 49 by rw [hM1]; exact mu_ne _ _ (by first | decide | omega))
  have q100_50_M1 : id (M1 100 50 = M 100 50) := (show M1 100 50 = M 100 50 by rw [hM1]; exact mu_ne _ _ (by first | decide | omega))
  have q100_51_M1 : id (M1 100 51 = M 100 51) := (show M1 100 51 = M 100 51 by rw [hM1]; exact mu_ne _ _ (by first | decide | omega))
  have q100_52_M1 : id (M1 100 52 = M 100 52) := (show M1 100 52 = M 100 52 by rw [hM1]; exact mu_ne _ _ (by first | decide | omega))
  have q103_0_M1 : id (M1 103 0 = M 103 0) := (show M1 103 0 = M 103 0 by rw [hM1]; exact mu_ne _ _ (by first | decide | omega))
  have q103_1_M1 : id (M1 103 1 = M 103 1) := (show M1 103 1 = M 103 1 by rw [hM1]; exact mu_ne _ _ (by first | decide | omega))
  have q97_12_M1 : (M1 97 12 = M 97 12) := (show M1 97 12 = M 97 12 by rw [hM1]; exact mu_ne _ _ (by first | decide | omega))
  have wM1_97_42 : M1 97 42 = M 97 42 := by rw [hM1]; exact mu_ne _ _ (by first | decide | omega)
  have xM1_97_0 : M1 97 0 = 0 := by rw [hM1]; exact mu_at _ _ _ _
  refine g_iload_n (pc' := 6) 1 dX10_night_5 rfl rfl ?_
  refine g_i2l (pc' := 7) ha dX10_night_6 rfl ?_
  refine g_lconst (pc' := 8) (v := 0) dX10_night_7 rfl (by decide) ?_
  refine g_ldc2 (pc' := 11) (v := 1000000) dX10_night_8 rfl k_X10_181 ?_
  refine g_callSip (pc' := 14) (As := [vl a, vl 0, vl 1000000]) (S := []) dX10_night_11 rfl m_X10_83 w_X10_in (c_X10_in X M1 a ⟨by omega, by omega⟩ 0 (by decide) 1000000 (by decide)) rfl (by decide) (by decide) rfl (Nat.le_of_ble_eq_true rfl) (fun z3 q2 => ?_)
  refine g_if_eq (pc' := 17) (tgt := 29) ⟨by omega, by omega⟩ dX10_night_14 rfl rfl (fun c4 => ?_) (fun c4 => ?_)
  · replace q2 := q2.resolve_left (fun h => absurd (c4.symm.trans h.1) (by decide))
    refine g_aload_n (pc' := 30) 0 dX10_night_29 rfl rfl ?_
    refine g_iconst (pc' := 31) dX10_night_30 rfl ?_
    refine g_callVi (pc' := 34) (As := [vi (-1)]) (b := 97) (S := []) dX10_night_31 rfl m_X10_87 w_X10_tell (c_X10_tell X M1 iM1 (-1) (by decide) (by omega)) rfl ⟨_, _, _, rfl, rfl, rfl⟩ (by decide) (by decide) rfl (Nat.le_of_ble_eq_true rfl) (fun z6 M7 q5 => ?_)
    obtain ⟨iM7, fM70, eM7_99_0, eM7_99_1, eM7_99_2, eM7_99_3, eM7_100_0, eM7_100_1, eM7_100_2, eM7_100_3, eM7_100_49, eM7_100_50, eM7_100_51, eM7_100_52, eM7_103_0, eM7_103_1, eM7_97_12, pM7⟩ := q5
    have fM7 : Fr (fun c => 97 ≤ c ∧ c ≤ 116) M M7 := Fr.tr fM1 fM70 fi_23
    have q99_0_M7 : (M7 99 0 = M 99 0) := eM7_99_0.trans q99_0_M1
    have q99_1_M7 : (M7 99 1 = M 99 1) := eM7_99_1.trans q99_1_M1
    have q99_2_M7 : (M7 99 2 = M 99 2) := eM7_99_2.trans q99_2_M1
    have q99_3_M7 : (M7 99 3 = M 99 3) := eM7_99_3.trans q99_3_M1
    have q100_0_M7 : id (M7 100 0 = M 100 0) := eM7_100_0.trans q100_0_M1
    have q100_1_M7 : id (M7 100 1 = M 100 1) := eM7_100_1.trans q100_1_M1
    have q100_2_M7 : id (M7 100 2 = M 100 2) := eM7_100_2.trans q100_2_M1
    have q100_3_M7 : id (M7 100 3 = M 100 3) := eM7_100_3.trans q100_3_M1
    have q100_49_M7 : id (M7 100 49 = M 100 49) := eM7_100_49.trans q100_49_M1
    have q100_50_M7 : id (M7 100 50 = M 100 50) := eM7_100_50.trans q100_50_M1
    have q100_51_M7 : id (M7 100 51 = M 100 51) := eM7_100_51.trans q100_51_M1
    have q100_52_M7 : id (M7 100 52 = M 100 52) := eM7_100_52.trans q100_52_M1
    have q103_0_M7 : id (M7 103 0 = M 103 0) := eM7_103_0.trans q103_0_M1
    have q103_1_M7 : id (M7 103 1 = M 103 1) := eM7_103_1.trans q103_1_M1
    have q97_12_M7 : (M7 97 12 = M 97 12) := eM7_97_12.trans q97_12_M1
    clear eM7_100_0 eM7_100_1 eM7_100_2 eM7_100_3 eM7_100_49 eM7_100_50 eM7_100_51 eM7_100_52 eM7_103_0 eM7_103_1
    refine g_ireturn dX10_night_34 ?_
    exact ⟨iM7, fM7, q99_0_M7, q99_1_M7, q99_2_M7, q99_3_M7, q100_0_M7, q100_1_M7, q100_2_M7, q100_3_M7, q100_49_M7, q100_50_M7, q100_51_M7, q100_52_M7, q103_0_M7, q103_1_M7, q97_12_M7, by first | assumption | decide | omega⟩
  · replace q2 := q2.resolve_right (fun h => c4 h.1)
    refine g_iload_n (pc' := 18) 2 dX10_night_17 rfl rfl ?_
    refine g_i2l (pc' := 19) hb dX10_night_18 rfl ?_
    refine g_lconst (pc' := 20) (v := 1) dX10_night_19 rfl (by decide) ?_
    refine g_ldc2 (pc' := 23) (v := 20) dX10_night_20 rfl k_X10_204 ?_
    refine g_callSip (pc' := 26) (As := [vl b, vl 1, vl 20]) (S := []) dX10_night_23 rfl m_X10_83 w_X10_in (c_X10_in X M1 b ⟨by omega, by omega⟩ 1 (by decide) 20 (by decide)) rfl (by decide) (by decide) rfl (Nat.le_of_ble_eq_true rfl) (fun z9 q8 => ?_)
    refine g_if_ne (pc' := 29) (tgt := 35) ⟨by omega, by omega⟩ dX10_night_26 rfl rfl (fun c10 => ?_) (fun c10 => ?_)
    · replace q8 := q8.resolve_right (fun h => c10 h.1)
      refine g_aload_n (pc' := 36) 0 dX10_night_35 rfl rfl ?_
      refine g_sipush (pc' := 39) (v := 275) dX10_night_36 rfl (by decide) ?_
      refine g_callVv (pc' := 42) (As := [vi 275]) (b := 97) (S := []) dX10_night_39 rfl m_X10_123 w_X10_keep (c_X10_keep X M1 275 (by decide) ⟨by omega, by omega⟩) rfl ⟨_, _, _, rfl, rfl, rfl⟩ (by decide) (by decide) rfl (Nat.le_of_ble_eq_true rfl) (fun M12 q11 => ?_)
      obtain ⟨fkM12, kpM12, usM12⟩ := q11
      have iM12 : IM M12 := IM.fr iM1 fkM12 (fun c z => by omega)
      have fM12 : Fr (fun c => 97 ≤ c ∧ c ≤ 116) M M12 := Fr.tr fM1 fkM12 (fun c z => by omega)
      have q99_0_M12 : M12 99 0 = M 99 0 := (congrFun (fkM12 99 (by omega)) 0).trans q99_0_M1
      have q99_1_M12 : M12 99 1 = M 99 1 := (congrFun (fkM12 99 (by omega)) 1).trans q99_1_M1
      have q99_2_M12 : M12 99 2 = M 99 2 := (congrFun (fkM12 99 (by omega)) 2).trans q99_2_M1
      have q99_3_M12 : M12 99 3 = M 99 3 := (congrFun (fkM12 99 (by omega)) 3).trans q99_3_M1
      have q100_0_M12 : M12 100 0 = M 100 0 := (congrFun (fkM12 100 (by omega)) 0).trans q100_0_M1
      have q100_1_M12 : M12 100 1 = M 100 1 := (congrFun (fkM12 100 (by omega)) 1).trans q100_1_M1
      have q100_2_M12 : M12 100 2 = M 100 2 := (congrFun (fkM12 100 (by omega)) 2).trans q100_2_M1
      have q100_3_M12 : M12 100 3 = M 100 3 := (congrFun (fkM12 100 (by omega)) 3).trans q100_3_M1
      have q100_49_M12 : M12 100 49 = M 100 49 := (congrFun (fkM12 100 (by omega)) 49).trans q100_49_M1
      have q100_50_M12 : M12 100 50 = M 100 50 := (congrFun (fkM12 100 (by omega)) 50).trans q100_50_M1
      have q100_51_M12 : M12 100 51 = M 100 51 := (congrFun (fkM12 100 (by omega)) 51).trans q100_51_M1
      have q100_52_M12 : M12 100 52 = M 100 52 := (congrFun (fkM12 100 (by omega)) 52).trans q100_52_M1
      have q103_0_M12 : M12 103 0 = M 103 0 := (congrFun (fkM12 103 (by omega)) 0).trans q103_0_M1
      have q103_1_M12 : M12 103 1 = M 103 1 := (congrFun (fkM12 103 (by omega)) 1).trans q103_1_M1
      have q97_12_M12 : M12 97 12 = M 97 12 := (congrFun (fkM12 97 (by omega)) 12).trans q97_12_M1
      have knM12 : ∀ j : Nat, j < 25 → M12 104 (275 + j) = M 101 j := fun j hj => (kpM12 j hj).trans (by rw [hM1, mu_cell _ _ (by decide)])
      refine g_aload_n (pc' := 43) 0 dX10_night_42 rfl rfl ?_
      refine g_iload_n (pc' := 44) 1 dX10_night_43 rfl rfl ?_
      refine g_i2l (pc' := 45) ha dX10_night_44 rfl ?_
      refine g_putL (pc' := 48) dX10_night_45 rfl p_X10_399 rfl rfl ⟨by omega, by omega⟩ (fun M13 hM13 => ?_)
      have iM13 : IM M13 := IM.wr iM12 hM13 (by unfold okv; first | decide | omega)
      have fM13 : Fr (fun c => 97 ≤ c ∧ c ≤ 116) M M13 := Fr.wr fM12 hM13 (by first | decide | omega | (dsimp only; omega))
      have q99_0_M13 : (M13 99 0 = M 99 0) := (show M13 99 0 = M12 99 0 by rw [hM13]; exact mu_ne _ _ (by first | decide | omega)).trans q99_0_M12
      have q99_1_M13 : (M13 99 1 = M 99 1) := (show M13 99 1 = M12 99 1 by rw [hM13]; exact mu_ne _ _ (by first | decide | omega)).trans q99_1_M12
      have q99_2_M13 : (M13 99 2 = M 99 2) := (show M13 99 2 = M12 99 2 by rw [hM13]; exact mu_ne _ _ (by first | decide | omega)).trans q99_2_M12
      have q99_3_M13 : (M13 99 3 = M 99 3) := (show M13 99 3 = M12 99 3 by rw [hM13]; exact mu_ne _ _ (by first | decide | omega)).trans q99_3_M12
      have q100_0_M13 : id (M13 100 0 = M 100 0) := (show M13 100 0 = M12 100 0 by rw [hM13]; exact mu_ne _ _ (by first | decide | omega)).trans q100_0_M12
      have q100_1_M13 : id (M13 100 1 = M 100 1) := (show M13 100 1 = M12 100 1 by rw [hM13]; exact mu_ne _ _ (by first | decide | omega)).trans q100_1_M12
      have q100_2_M13 : id (M13 100 2 = M 100 2) := (show M13 100 2 = M12 100 2 by rw [hM13]; exact mu_ne _ _ (by first | decide | omega)).trans q100_2_M12
      have q100_3_M13 : id (M13 100 3 = M 100 3) := (show M13 100 3 = M12 100 3 by rw [hM13]; exact mu_ne _ _ (by first | decide | omega)).trans q100_3_M12
      have q100_49_M13 : id (M13 100 49 = M 100 49) := (show M13 100 49 = M12 100 49 by rw [hM13]; exact mu_ne _ _ (by first | decide | omega)).trans q100_49_M12
      have q100_50_M13 : id (M13 100 50 = M 100 50) := (show M13 100 50 = M12 100 50 by rw [hM13]; exact mu_ne _ _ (by first | decide | omega)).trans q100_50_M12
      have q100_51_M13 : id (M13 100 51 = M 100 51) := (show M13 100 51 = M12 100 51 by rw [hM13]; exact mu_ne _ _ (by first | decide | omega)).trans q100_51_M12
      have q100_52_M13 : id (M13 100 52 = M 100 52) := (show M13 100 52 = M12 100 52 by rw [hM13]; exact mu_ne _ _ (by first | decide | omega)).trans q100_52_M12
      have q103_0_M13 : id (M13 103 0 = M 103 0) := (show M13 103 0 = M12 103 0 by rw [hM13]; exact mu_ne _ _ (by first | decide | omega)).trans q103_0_M12
      have q103_1_M13 : id (M13 103 1 = M 103 1) := (show M13 103 1 = M12 103 1 by rw [hM13]; exact mu_ne _ _ (by first | decide | omega)).trans q103_1_M12
      have q97_12_M13 : (M13 97 12 = M 97 12) := (show M13 97 12 = M12 97 12 by rw [hM13]; exact mu_ne _ _ (by first | decide | omega)).trans q97_12_M12
      have xM13_97_42 : M13 97 42 = a := by rw [hM13]; exact mu_at _ _ _ _
      have knM13 : ∀ j : Nat, j < 25 → M13 104 (275 + j) = M 101 j := fun j hj => by rw [hM13, mu_cell _ _ (by decide)]; exact knM12 j hj
      refine g_iconst (pc' := 49) dX10_night_48 rfl ?_
      refine g_istore_n (pc' := 50) (i := 3) (L' := [(3, vi 0), (0, vr X 97), (1, vi a), (2, vi b)]) dX10_night_49 rfl rfl (by decide) rfl ?_
      refine g_iconst (pc' := 51) dX10_night_50 rfl ?_
      refine g_istore (pc' := 53) (L' := [(4, vi 0), (3, vi 0), (0, vr X 97), (1, vi a), (2, vi b)]) dX10_night_51 rfl (by decide) rfl ?_
      refine g_sub [1, 0, 2, 4] rfl ?_
      exact l_X10_night_53 X M hi a ha b hb _ 0 0 M13 iM13 fM13 q99_0_M13 q99_1_M13 q99_2_M13 q99_3_M13 q100_0_M13 q100_1_M13 q100_2_M13 q100_3_M13 q100_49_M13 q100_50_M13 q100_51_M13 q100_52_M13 q103_0_M13 q103_1_M13 q97_12_M13 knM13 (by omega) (by omega) (by omega) (by omega) (by omega) rfl
    · replace q8 := q8.resolve_left (fun h => absurd (c10.symm.trans h.1) (by decide))
      refine g_aload_n (pc' := 30) 0 dX10_night_29 rfl rfl ?_
      refine g_iconst (pc' := 31) dX10_night_30 rfl ?_
      refine g_callVi (pc' := 34) (As := [vi (-1)]) (b := 97) (S := []) dX10_night_31 rfl m_X10_87 w_X10_tell (c_X10_tell X M1 iM1 (-1) (by decide) (by omega)) rfl ⟨_, _, _, rfl, rfl, rfl⟩ (by decide) (by decide) rfl (Nat.le_of_ble_eq_true rfl) (fun z15 M16 q14 => ?_)
      obtain ⟨iM16, fM160, eM16_99_0, eM16_99_1, eM16_99_2, eM16_99_3, eM16_100_0, eM16_100_1, eM16_100_2, eM16_100_3, eM16_100_49, eM16_100_50, eM16_100_51, eM16_100_52, eM16_103_0, eM16_103_1, eM16_97_12, pM16⟩ := q14
      have fM16 : Fr (fun c => 97 ≤ c ∧ c ≤ 116) M M16 := Fr.tr fM1 fM160 fi_23
      have q99_0_M16 : (M16 99 0 = M 99 0) := eM16_99_0.trans q99_0_M1
      have q99_1_M16 : (M16 99 1 = M 99 1) := eM16_99_1.trans q99_1_M1
      have q99_2_M16 : (M16 99 2 = M 99 2) := eM16_99_2.trans q99_2_M1
      have q99_3_M16 : (M16 99 3 = M 99 3) := eM16_99_3.trans q99_3_M1
      have q100_0_M16 : id (M16 100 0 = M 100 0) := eM16_100_0.trans q100_0_M1
      have q100_1_M16 : id (M16 100 1 = M 100 1) := eM16_100_1.trans q100_1_M1
      have q100_2_M16 : id (M16 100 2 = M 100 2) := eM16_100_2.trans q100_2_M1
      have q100_3_M16 : id (M16 100 3 = M 100 3) := eM16_100_3.trans q100_3_M1
      have q100_49_M16 : id (M16 100 49 = M 100 49) := eM16_100_49.trans q100_49_M1
      have q100_50_M16 : id (M16 100 50 = M 100 50) := eM16_100_50.trans q100_50_M1
      have q100_51_M16 : id (M16 100 51 = M 100 51) := eM16_100_51.trans q100_51_M1
      have q100_52_M16 : id (M16 100 52 = M 100 52) := eM16_100_52.trans q100_52_M1
      have q103_0_M16 : id (M16 103 0 = M 103 0) := eM16_103_0.trans q103_0_M1
      have q103_1_M16 : id (M16 103 1 = M 103 1) := eM16_103_1.trans q103_1_M1
      have q97_12_M16 : (M16 97 12 = M 97 12) := eM16_97_12.trans q97_12_M1
      clear eM16_100_0 eM16_100_1 eM16_100_2 eM16_100_3 eM16_100_49 eM16_100_50 eM16_100_51 eM16_100_52 eM16_103_0 eM16_103_1
      refine g_ireturn dX10_night_34 ?_
      exact ⟨iM16, fM16, q99_0_M16, q99_1_M16, q99_2_M16, q99_3_M16, q100_0_M16, q100_1_M16, q100_2_M16, q100_3_M16, q100_49_M16, q100_50_M16, q100_51_M16, q100_52_M16, q103_0_M16, q103_1_M16, q97_12_M16, by first | assumption | decide | omega⟩
