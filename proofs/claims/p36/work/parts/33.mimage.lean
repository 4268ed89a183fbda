set_option maxHeartbeats 4000000 in
set_option maxRecDepth 100000 in
theorem l_X10_image_54 (X : Cx) (M : Mm) (hi : IM M) (a : Int) (ha : inI a) : ∀ (kk : Nat) (i : Int) (M1 : Mm) (fr1 : Fr (fun c => 97 ≤ c ∧ c ≤ 116) M M1) (q99_0 : (M1 99 0 = M 99 0)) (q99_1 : (M1 99 1 = M 99 1)) (q99_2 : (M1 99 2 = M 99 2)) (q99_3 : (M1 99 3 = M 99 3)) (q97_12 : (M1 97 12 = M 97 12)) (a01 : 0 ≤ a ∧ a ≤ 1) (k0 : 0 ≤ i) (e99 : M1 99 = M 99) (e101 : M1 101 = M 101) (e44 : M1 97 44 = M 97 44) (e103 : M1 103 = M 103) (k1 : i ≤ 25) (cR : ∀ j : Nat, j < 49 → M1 100 (49 * a.toNat + j) = M 99 j) (us : ∀ q : Nat, (q < 49 * a.toNat ∨ 49 * a.toNat + 49 ≤ q) → M1 100 q = M 100 q) (cp : ∀ j : Nat, (j : Int) < i → M1 102 (25 * a.toNat + j) = M 101 j) (us2 : ∀ q : Nat, (q < 25 * a.toNat ∨ 25 * a.toNat + 25 ≤ q) → M1 102 q = M 102 q), (25 - i).toNat = kk → G X 12 RX10 cX10_image 3 (some .int) (Qi (fun r M1 => IM M1 ∧ Fr (fun c => 97 ≤ c ∧ c ≤ 116) M M1 ∧ M1 99 0 = M 99 0 ∧ M1 99 1 = M 99 1 ∧ M1 99 2 = M 99 2 ∧ M1 99 3 = M 99 3 ∧ M1 97 12 = M 97 12 ∧ (((a < 0 ∨ 1 < a) → r = -1 ∧ M1 100 0 = M 100 0 ∧ M1 100 1 = M 100 1 ∧ M1 100 2 = M 100 2 ∧ M1 100 3 = M 100 3 ∧ M1 103 0 = M 103 0 ∧ M1 100 49 = M 100 49 ∧ M1 100 50 = M 100 50 ∧ M1 100 51 = M 100 51 ∧ M1 100 52 = M 100 52 ∧ M1 103 1 = M 103 1) ∧ (a = 0 → r = 0 ∧ M1 100 0 = M 99 0 ∧ M1 100 1 = M 99 1 ∧ M1 100 2 = M 99 2 ∧ M1 100 3 = M 99 3 ∧ M1 103 0 = 1 ∧ M1 100 49 = M 100 49 ∧ M1 100 50 = M 100 50 ∧ M1 100 51 = M 100 51 ∧ M1 100 52 = M 100 52 ∧ M1 103 1 = M 103 1) ∧ (a = 1 → r = 0 ∧ M1 100 49 = M 99 0 ∧ M1 100 50 = M 99 1 ∧ M1 100 51 = M 99 2 ∧ M1 100 52 = M 99 3 ∧ M1 103 1 = 1 ∧ M1 100 0 = M 100 0 ∧ M1 100 1 = M 100 1 ∧ M1 100 2 = M 100 2 ∧ M1 100 3 = M 100 3 ∧ M1 103 0 = M 103 0)))) 54 [(2, vi i), (0, vr X 97), (1, vi a)] [] M1 := by
  intro kk
  induction kk using Nat.strongRecOn with
  | ind kk ih =>
    intro i M1 fr1 q99_0 q99_1 q99_2 q99_3 q97_12 a01 k0 e99 e101 e44 e103 k1 cR us cp us2 hmes
    refine g_iload_n (pc' := 55) 0 dX10_image_54 rfl rfl ?_
    refine g_bipush (pc' := 57) (v := 25) dX10_image_55 rfl (by decide) ?_
    refine g_ic_ge (pc' := 60) (tgt := 83) ⟨by omega, by omega⟩ (by decide) dX10_image_57 rfl rfl (fun c1 => ?_) (fun c1 => ?_)
    · refine g_aload_n (pc' := 84) 1 dX10_image_83 rfl rfl ?_
      refine g_getR (pc' := 87) dX10_image_84 rfl f_X10_26 rfl rfl ?_
      refine g_iload_n (pc' := 88) 2 dX10_image_87 rfl rfl ?_
      refine g_iconst (pc' := 89) dX10_image_88 rfl ?_
      refine g_zast (pc' := 90) dX10_image_89 rfl rfl (by omega) (by omega) (by omega) (fun M2 hM2 => ?_)
      have fM2 : Fr (fun c => 97 ≤ c ∧ c ≤ 116) M M2 := Fr.wr fr1 hM2 (by first | decide | omega | (dsimp only; omega))
      have q99_0_M2 : (M2 99 0 = M 99 0) := (show M2 99 0 = M1 99 0 by rw [hM2]; exact mu_ne _ _ (by first | decide | omega)).trans q99_0
      have q99_1_M2 : (M2 99 1 = M 99 1) := (show M2 99 1 = M1 99 1 by rw [hM2]; exact mu_ne _ _ (by first | decide | omega)).trans q99_1
      have q99_2_M2 : (M2 99 2 = M 99 2) := (show M2 99 2 = M1 99 2 by rw [hM2]; exact mu_ne _ _ (by first | decide | omega)).trans q99_2
      have q99_3_M2 : (M2 99 3 = M 99 3) := (show M2 99 3 = M1 99 3 by rw [hM2]; exact mu_ne _ _ (by first | decide | omega)).trans q99_3
      have q97_12_M2 : (M2 97 12 = M 97 12) := (show M2 97 12 = M1 97 12 by rw [hM2]; exact mu_ne _ _ (by first | decide | omega)).trans q97_12
      have wM2_100_0 : M2 100 0 = M1 100 0 := by rw [hM2]; exact mu_ne _ _ (by first | decide | omega)
      have wM2_100_1 : M2 100 1 = M1 100 1 := by rw [hM2]; exact mu_ne _ _ (by first | decide | omega)
      have wM2_100_2 : M2 100 2 = M1 100 2 := by rw [hM2]; exact mu_ne _ _ (by first | decide | omega)
      have wM2_100_3 : M2 100 3 = M1 100 3 := by rw [hM2]; exact mu_ne _ _ (by first | decide | omega)
      have wM2_100_49 : M2 100 49 = M1 100 49 := by rw [hM2]; exact mu_ne _ _ (by first | decide | omega)
      have wM2_100_50 : M2 100 50 = M1 100 50 := by rw [hM2]; exact mu_ne _ _ (by first | decide | omega)
      have wM2_100_51 : M2 100 51 = M1 100 51 := by rw [hM2]; exact mu_ne _ _ (by first | decide | omega)
      have wM2_100_52 : M2 100 52 = M1 100 52 := by rw [hM2]; exact mu_ne _ _ (by first | decide | omega)
      have e99M2 : M2 99 = M 99 := by rw [hM2, mu_cell _ _ (by decide)]; exact e99
      have e101M2 : M2 101 = M 101 := by rw [hM2, mu_cell _ _ (by decide)]; exact e101
      have e44M2 : M2 97 44 = M 97 44 := by rw [hM2, mu_ne _ _ (by first | decide | omega)]; exact e44
      have cRM2 : ∀ j : Nat, j < 49 → M2 100 (49 * a.toNat + j) = M 99 j := fun j hj => by rw [hM2, mu_cell _ _ (by decide)]; exact cR j hj
      have usM2 : ∀ q : Nat, (q < 49 * a.toNat ∨ 49 * a.toNat + 49 ≤ q) → M2 100 q = M 100 q := fun q hq => by rw [hM2, mu_cell _ _ (by decide)]; exact us q hq
      have cPM2 : ∀ j : Nat, j < 25 → M2 102 (25 * a.toNat + j) = M 101 j := fun j hj => by rw [hM2, mu_cell _ _ (by decide)]; exact cp j (by omega)
      have us2M2 : ∀ q : Nat, (q < 25 * a.toNat ∨ 25 * a.toNat + 25 ≤ q) → M2 102 q = M 102 q := fun q hq => by rw [hM2, mu_cell _ _ (by decide)]; exact us2 q hq
      have e103n : ∀ q : Nat, q ≠ a.toNat → M2 103 q = M 103 q := fun q hq => by rw [hM2, mu_ne _ _ (fun _ => hq), e103]
      have e103a : M2 103 a.toNat = 1 := by rw [hM2]; exact mu_at _ _ _ _
      have iM2 : IM M2 := IM.image (k := a.toNat) hi (by omega) e99M2 e101M2 q97_12_M2 e44M2 cRM2 usM2 cPM2 us2M2 e103n
      have g0 : a = 0 → M2 100 0 = M 99 0 ∧ M2 100 1 = M 99 1 ∧ M2 100 2 = M 99 2 ∧ M2 100 3 = M 99 3 ∧ M2 103 0 = 1 ∧ M2 100 49 = M 100 49 ∧ M2 100 50 = M 100 50 ∧ M2 100 51 = M 100 51 ∧ M2 100 52 = M 100 52 ∧ M2 103 1 = M 103 1 := fun z => by
        subst z
        exact ⟨cRM2 0 (by omega), cRM2 1 (by omega), cRM2 2 (by omega), cRM2 3 (by omega), e103a, usM2 49 (by omega), usM2 50 (by omega), usM2 51 (by omega), usM2 52 (by omega), e103n 1 (by decide)⟩
      have g1 : a = 1 → M2 100 49 = M 99 0 ∧ M2 100 50 = M 99 1 ∧ M2 100 51 = M 99 2 ∧ M2 100 52 = M 99 3 ∧ M2 103 1 = 1 ∧ M2 100 0 = M 100 0 ∧ M2 100 1 = M 100 1 ∧ M2 100 2 = M 100 2 ∧ M2 100 3 = M 100 3 ∧ M2 103 0 = M 103 0 := fun z => by
        subst z
        exact ⟨cRM2 0 (by omega), cRM2 1 (by omega), cRM2 2 (by omega), cRM2 3 (by omega), e103a, usM2 0 (by omega), usM2 1 (by omega), usM2 2 (by omega), usM2 3 (by omega), e103n 0 (by decide)⟩
      refine g_aload_n (pc' := 91) 1 dX10_image_90 rfl rfl ?_
      refine g_iconst (pc' := 92) dX10_image_91 rfl ?_
      refine g_callVi (pc' := 95) (As := [vi 0]) (b := 97) (S := []) dX10_image_92 rfl m_X10_87 w_X10_tell (c_X10_tell X M2 iM2 0 (by decide) (by omega)) rfl ⟨_, _, _, rfl, rfl, rfl⟩ (by decide) (by decide) rfl (Nat.le_of_ble_eq_true rfl) (fun z4 M5 q3 => ?_)
      obtain ⟨iM5, fM50, eM5_99_0, eM5_99_1, eM5_99_2, eM5_99_3, eM5_100_0, eM5_100_1, eM5_100_2, eM5_100_3, eM5_100_49, eM5_100_50, eM5_100_51, eM5_100_52, eM5_103_0, eM5_103_1, eM5_97_12, pM5⟩ := q3
      have fM5 : Fr (fun c => 97 ≤ c ∧ c ≤ 116) M M5 := Fr.tr fM2 fM50 fi_23
      have q99_0_M5 : (M5 99 0 = M 99 0) := eM5_99_0.trans q99_0_M2
      have q99_1_M5 : (M5 99 1 = M 99 1) := eM5_99_1.trans q99_1_M2
      have q99_2_M5 : (M5 99 2 = M 99 2) := eM5_99_2.trans q99_2_M2
      have q99_3_M5 : (M5 99 3 = M 99 3) := eM5_99_3.trans q99_3_M2
      have q97_12_M5 : (M5 97 12 = M 97 12) := eM5_97_12.trans q97_12_M2
      have wM5_100_0 : M5 100 0 = M2 100 0 := eM5_100_0
      have wM5_100_1 : M5 100 1 = M2 100 1 := eM5_100_1
      have wM5_100_2 : M5 100 2 = M2 100 2 := eM5_100_2
      have wM5_100_3 : M5 100 3 = M2 100 3 := eM5_100_3
      have wM5_103_0 : M5 103 0 = M2 103 0 := eM5_103_0
      have wM5_100_49 : M5 100 49 = M2 100 49 := eM5_100_49
      have wM5_100_50 : M5 100 50 = M2 100 50 := eM5_100_50
      have wM5_100_51 : M5 100 51 = M2 100 51 := eM5_100_51
      have wM5_100_52 : M5 100 52 = M2 100 52 := eM5_100_52
      have wM5_103_1 : M5 103 1 = M2 103 1 := eM5_103_1
      refine g_ireturn dX10_image_95 ?_
      exact ⟨iM5, fM5, q99_0_M5, q99_1_M5, q99_2_M5, q99_3_M5, q97_12_M5, by omega⟩
    · refine g_aload_n (pc' := 61) 1 dX10_image_60 rfl rfl ?_
      refine g_getR (pc' := 64) dX10_image_61 rfl f_X10_23 rfl rfl ?_
      refine g_bipush (pc' := 66) (v := 25) dX10_image_64 rfl (by decide) ?_
      refine g_iload_n (pc' := 67) 2 dX10_image_66 rfl rfl ?_
      refine g_imul (pc' := 68) dX10_image_67 rfl ?_
      refine g_iload_n (pc' := 69) 0 dX10_image_68 rfl rfl ?_
      refine g_iadd (pc' := 70) dX10_image_69 rfl ?_
      refine g_aload_n (pc' := 71) 1 dX10_image_70 rfl rfl ?_
      refine g_getR (pc' := 74) dX10_image_71 rfl f_X10_19 rfl rfl ?_
      refine g_iload_n (pc' := 75) 0 dX10_image_74 rfl rfl ?_
      refine g_lald (pc' := 76) dX10_image_75 rfl rfl (by omega) (by omega) (fun v6 ev6 rv6 => ?_)
      have gv6 : v6 = M 101 i.toNat := by rw [ev6, e101]
      refine g_last (pc' := 77) dX10_image_76 rfl rfl (by omega) (by omega) rv6 (fun M7 hM7 => ?_)
      have fM7 : Fr (fun c => 97 ≤ c ∧ c ≤ 116) M M7 := Fr.wr fr1 hM7 (by first | decide | omega | (dsimp only; omega))
      have q99_0_M7 : (M7 99 0 = M 99 0) := (show M7 99 0 = M1 99 0 by rw [hM7]; exact mu_ne _ _ (by first | decide | omega)).trans q99_0
      have q99_1_M7 : (M7 99 1 = M 99 1) := (show M7 99 1 = M1 99 1 by rw [hM7]; exact mu_ne _ _ (by first | decide | omega)).trans q99_1
      have q99_2_M7 : (M7 99 2 = M 99 2) := (show M7 99 2 = M1 99 2 by rw [hM7]; exact mu_ne _ _ (by first | decide | omega)).trans q99_2
      have q99_3_M7 : (M7 99 3 = M 99 3) := (show M7 99 3 = M1 99 3 by rw [hM7]; exact mu_ne _ _ (by first | decide | omega)).trans q99_3
      have q97_12_M7 : (M7 97 12 = M 97 12) := (show M7 97 12 = M1 97 12 by rw [hM7]; exact mu_ne _ _ (by first | decide | omega)).trans q97_12
      have wM7_100_0 : M7 100 0 = M1 100 0 := by rw [hM7]; exact mu_ne _ _ (by first | decide | omega)
      have wM7_100_1 : M7 100 1 = M1 100 1 := by rw [hM7]; exact mu_ne _ _ (by first | decide | omega)
      have wM7_100_2 : M7 100 2 = M1 100 2 := by rw [hM7]; exact mu_ne _ _ (by first | decide | omega)
      have wM7_100_3 : M7 100 3 = M1 100 3 := by rw [hM7]; exact mu_ne _ _ (by first | decide | omega)
      have wM7_103_0 : M7 103 0 = M1 103 0 := by rw [hM7]; exact mu_ne _ _ (by first | decide | omega)
      have wM7_100_49 : M7 100 49 = M1 100 49 := by rw [hM7]; exact mu_ne _ _ (by first | decide | omega)
      have wM7_100_50 : M7 100 50 = M1 100 50 := by rw [hM7]; exact mu_ne _ _ (by first | decide | omega)
      have wM7_100_51 : M7 100 51 = M1 100 51 := by rw [hM7]; exact mu_ne _ _ (by first | decide | omega)
      have wM7_100_52 : M7 100 52 = M1 100 52 := by rw [hM7]; exact mu_ne _ _ (by first | decide | omega)
      have wM7_103_1 : M7 103 1 = M1 103 1 := by rw [hM7]; exact mu_ne _ _ (by first | decide | omega)
      have e99M7 : M7 99 = M 99 := by rw [hM7, mu_cell _ _ (by decide)]; exact e99
      have e101M7 : M7 101 = M 101 := by rw [hM7, mu_cell _ _ (by decide)]; exact e101
      have e103M7 : M7 103 = M 103 := by rw [hM7, mu_cell _ _ (by decide)]; exact e103
      have e44M7 : M7 97 44 = M 97 44 := by rw [hM7, mu_ne _ _ (by first | decide | omega)]; exact e44
      have cRM7 : ∀ j : Nat, j < 49 → M7 100 (49 * a.toNat + j) = M 99 j := fun j hj => by rw [hM7, mu_cell _ _ (by decide)]; exact cR j hj
      have usM7 : ∀ q : Nat, (q < 49 * a.toNat ∨ 49 * a.toNat + 49 ≤ q) → M7 100 q = M 100 q := fun q hq => by rw [hM7, mu_cell _ _ (by decide)]; exact us q hq
      refine g_iinc (pc' := 80) (L' := [(2, vi (i + 1)), (0, vr X 97), (1, vi a)]) 0 dX10_image_77 rfl rfl (by decide) rfl ?_
      refine g_goto (tgt := 54) dX10_image_80 rfl ?_
      refine g_sub [0, 1, 2] rfl ?_
      exact ih _ (by omega) (i + 1) M7 fM7 q99_0_M7 q99_1_M7 q99_2_M7 q99_3_M7 q97_12_M7 (by omega) (by omega) e99M7 e101M7 e44M7 e103M7 (by omega) cRM7 usM7 (cstep (F := M 101) cp hM7 (by omega) k0 gv6) (ustep us2 hM7 (by omega)) rfl
set_option maxHeartbeats 4000000 in
set_option maxRecDepth 100000 in
theorem l_X10_image_23 (X : Cx) (M : Mm) (hi : IM M) (a : Int) (ha : inI a) : ∀ (kk : Nat) (i : Int) (M1 : Mm) (fr1 : Fr (fun c => 97 ≤ c ∧ c ≤ 116) M M1) (q99_0 : (M1 99 0 = M 99 0)) (q99_1 : (M1 99 1 = M 99 1)) (q99_2 : (M1 99 2 = M 99 2)) (q99_3 : (M1 99 3 = M 99 3)) (q97_12 : (M1 97 12 = M 97 12)) (a01 : 0 ≤ a ∧ a ≤ 1) (k0 : 0 ≤ i) (e99 : M1 99 = M 99) (e101 : M1 101 = M 101) (e44 : M1 97 44 = M 97 44) (e103 : M1 103 = M 103) (k1 : i ≤ 49) (e102 : M1 102 = M 102) (cp : ∀ j : Nat, (j : Int) < i → M1 100 (49 * a.toNat + j) = M 99 j) (us : ∀ q : Nat, (q < 49 * a.toNat ∨ 49 * a.toNat + 49 ≤ q) → M1 100 q = M 100 q), (49 - i).toNat = kk → G X 12 RX10 cX10_image 3 (some .int) (Qi (fun r M1 => IM M1 ∧ Fr (fun c => 97 ≤ c ∧ c ≤ 116) M M1 ∧ M1 99 0 = M 99 0 ∧ M1 99 1 = M 99 1 ∧ M1 99 2 = M 99 2 ∧ M1 99 3 = M 99 3 ∧ M1 97 12 = M 97 12 ∧ (((a < 0 ∨ 1 < a) → r = -1 ∧ M1 100 0 = M 100 0 ∧ M1 100 1 = M 100 1 ∧ M1 100 2 = M 100 2 ∧ M1 100 3 = M 100 3 ∧ M1 103 0 = M 103 0 ∧ M1 100 49 = M 100 49 ∧ M1 100 50 = M 100 50 ∧ M1 100 51 = M 100 51 ∧ M1 100 52 = M 100 52 ∧ M1 103 1 = M 103 1) ∧ (a = 0 → r = 0 ∧ M1 100 0 = M 99 0 ∧ M1 100 1 = M 99 1 ∧ M1 100 2 = M 99 2 ∧ M1 100 3 = M 99 3 ∧ M1 103 0 = 1 ∧ M1 100 49 = M 100 49 ∧ M1 100 50 = M 100 50 ∧ M1 100 51 = M 100 51 ∧ M1 100 52 = M 100 52 ∧ M1 103 1 = M 103 1) ∧ (a = 1 → r = 0 ∧ M1 100 49 = M 99 0 ∧ M1 100 50 = M 99 1 ∧ M1 100 51 = M 99 2 ∧ M1 100 52 = M 99 3 ∧ M1 103 1 = 1 ∧ M1 100 0 = M 100 0 ∧ M1 100 1 = M 100 1 ∧ M1 100 2 = M 100 2 ∧ M1 100 3 = M 100 3 ∧ M1 103 0 = M 103 0)))) 23 [(2, vi i), (0, vr X 97), (1, vi a)] [] M1 := by
  intro kk
  induction kk using Nat.strongRecOn with
  | ind kk ih =>
    intro i M1 fr1 q99_0 q99_1 q99_2 q99_3 q97_12 a01 k0 e99 e101 e44 e103 k1 e102 cp us hmes
    refine g_iload_n (pc' := 24) 0 dX10_image_23 rfl rfl ?_
    refine g_bipush (pc' := 26) (v := 49) dX10_image_24 rfl (by decide) ?_
    refine g_ic_ge (pc' := 29) (tgt := 52) ⟨by omega, by omega⟩ (by decide) dX10_image_26 rfl rfl (fun c1 => ?_) (fun c1 => ?_)
    · refine g_iconst (pc' := 53) dX10_image_52 rfl ?_
      refine g_istore_n (pc' := 54) (i := 2) (L' := [(2, vi 0), (0, vr X 97), (1, vi a)]) dX10_image_53 rfl rfl (by decide) rfl ?_
      refine g_sub [0, 1, 2] rfl ?_
      exact l_X10_image_54 X M hi a ha _ 0 M1 fr1 q99_0 q99_1 q99_2 q99_3 q97_12 (by omega) (by omega) e99 e101 e44 e103 (by omega) (fun j hj => cp j (by omega)) us (fun j hj => by omega) (fun q _ => by rw [e102]) rfl
    · refine g_aload_n (pc' := 30) 1 dX10_image_29 rfl rfl ?_
      refine g_getR (pc' := 33) dX10_image_30 rfl f_X10_16 rfl rfl ?_
      refine g_bipush (pc' := 35) (v := 49) dX10_image_33 rfl (by decide) ?_
      refine g_iload_n (pc' := 36) 2 dX10_image_35 rfl rfl ?_
      refine g_imul (pc' := 37) dX10_image_36 rfl ?_
      refine g_iload_n (pc' := 38) 0 dX10_image_37 rfl rfl ?_
      refine g_iadd (pc' := 39) dX10_image_38 rfl ?_
      refine g_aload_n (pc' := 40) 1 dX10_image_39 rfl rfl ?_
      refine g_getR (pc' := 43) dX10_image_40 rfl f_X10_13 rfl rfl ?_
      refine g_iload_n (pc' := 44) 0 dX10_image_43 rfl rfl ?_
      refine g_iald (pc' := 45) dX10_image_44 rfl rfl (by omega) (by omega) (fun v2 ev2 rv2 => ?_)
      have gv2 : v2 = M 99 i.toNat := by rw [ev2, e99]
      refine g_iast (pc' := 46) dX10_image_45 rfl rfl (by omega) (by omega) rv2 (fun M3 hM3 => ?_)
      have fM3 : Fr (fun c => 97 ≤ c ∧ c ≤ 116) M M3 := Fr.wr fr1 hM3 (by first | decide | omega | (dsimp only; omega))
      have q99_0_M3 : (M3 99 0 = M 99 0) := (show M3 99 0 = M1 99 0 by rw [hM3]; exact mu_ne _ _ (by first | decide | omega)).trans q99_0
      have q99_1_M3 : (M3 99 1 = M 99 1) := (show M3 99 1 = M1 99 1 by rw [hM3]; exact mu_ne _ _ (by first | decide | omega)).trans q99_1
      have q99_2_M3 : (M3 99 2 = M 99 2) := (show M3 99 2 = M1 99 2 by rw [hM3]; exact mu_ne _ _ (by first | decide | omega)).trans q99_2
      have q99_3_M3 : (M3 99 3 = M 99 3) := (show M3 99 3 = M1 99 3 by rw [hM3]; exact mu_ne _ _ (by first | decide | omega)).trans q99_3
      have q97_12_M3 : (M3 97 12 = M 97 12) := (show M3 97 12 = M1 97 12 by rw [hM3]; exact mu_ne _ _ (by first | decide | omega)).trans q97_12
      have wM3_103_0 : M3 103 0 = M1 103 0 := by rw [hM3]; exact mu_ne _ _ (by first | decide | omega)
      have wM3_103_1 : M3 103 1 = M1 103 1 := by rw [hM3]; exact mu_ne _ _ (by first | decide | omega)
      have e99M3 : M3 99 = M 99 := by rw [hM3, mu_cell _ _ (by decide)]; exact e99
      have e101M3 : M3 101 = M 101 := by rw [hM3, mu_cell _ _ (by decide)]; exact e101
      have e103M3 : M3 103 = M 103 := by rw [hM3, mu_cell _ _ (by decide)]; exact e103
      have e102M3 : M3 102 = M 102 := by rw [hM3, mu_cell _ _ (by decide)]; exact e102
      have e44M3 : M3 97 44 = M 97 44 := by rw [hM3, mu_ne _ _ (by first | decide | omega)]; exact e44
      refine g_iinc (pc' := 49) (L' := [(2, vi (i + 1)), (0, vr X 97), (1, vi a)]) 0 dX10_image_46 rfl rfl (by decide) rfl ?_
      refine g_goto (tgt := 23) dX10_image_49 rfl ?_
      refine g_sub [0, 1, 2] rfl ?_
      exact ih _ (by omega) (i + 1) M3 fM3 q99_0_M3 q99_1_M3 q99_2_M3 q99_3_M3 q97_12_M3 (by omega) (by omega) e99M3 e101M3 e44M3 e103M3 (by omega) e102M3 (cstep (F := M 99) cp hM3 (by omega) k0 gv2) (ustep us hM3 (by omega)) rfl
set_option maxHeartbeats 4000000 in
set_option maxRecDepth 100000 in
theorem c_X10_image (X : Cx) (M : Mm) (hi : IM M) (a : Int) (ha : inI a) : Con X 12 yX10_image cX10_image 3 (some .int) [vr X 97, vi a] M (Qi (fun r M1 => IM M1 ∧ Fr (fun c => 97 ≤ c ∧ c ≤ 116) M M1 ∧ M1 99 0 = M 99 0 ∧ M1 99 1 = M 99 1 ∧ M1 99 2 = M 99 2 ∧ M1 99 3 = M 99 3 ∧ M1 97 12 = M 97 12 ∧ (((a < 0 ∨ 1 < a) → r = -1 ∧ M1 100 0 = M 100 0 ∧ M1 100 1 = M 100 1 ∧ M1 100 2 = M 100 2 ∧ M1 100 3 = M 100 3 ∧ M1 103 0 = M 103 0 ∧ M1 100 49 = M 100 49 ∧ M1 100 50 = M 100 50 ∧ M1 100 51 = M 100 51 ∧ M1 100 52 = M 100 52 ∧ M1 103 1 = M 103 1) ∧ (a = 0 → r = 0 ∧ M1 100 0 = M 99 0 ∧ M1 100 1 = M 99 1 ∧ M1 100 2 = M 99 2 ∧ M1 100 3 = M 99 3 ∧ M1 103 0 = 1 ∧ M1 100 49 = M 100 49 ∧ M1 100 50 = M 100 50 ∧ M1 100 51 = M 100 51 ∧ M1 100 52 = M 100 52 ∧ M1 103 1 = M 103 1) ∧ (a = 1 → r = 0 ∧ M1 100 49 = M 99 0 ∧ M1 100 50 = M 99 1 ∧ M1 100 51 = M 99 2 ∧ M1 100 52 = M 99 3 ∧ M1 103 1 = 1 ∧ M1 100 0 = M 100 0 ∧ M1 100 1 = M 100 1 ∧ M1 100 2 = M 100 2 ∧ M1 100 3 = M 100 3 ∧ M1 103 0 = M 103 0)))) := by
  refine Con.ofG rfl (Nat.le_of_ble_eq_true rfl) ?_
  show G X 12 RX10 cX10_image 3 (some .int) (Qi (fun r M1 => IM M1 ∧ Fr (fun c => 97 ≤ c ∧ c ≤ 116) M M1 ∧ M1 99 0 = M 99 0 ∧ M1 99 1 = M 99 1 ∧ M1 99 2 = M 99 2 ∧ M1 99 3 = M 99 3 ∧ M1 97 12 = M 97 12 ∧ (((a < 0 ∨ 1 < a) → r = -1 ∧ M1 100 0 = M 100 0 ∧ M1 100 1 = M 100 1 ∧ M1 100 2 = M 100 2 ∧ M1 100 3 = M 100 3 ∧ M1 103 0 = M 103 0 ∧ M1 100 49 = M 100 49 ∧ M1 100 50 = M 100 50 ∧ M1 100 51 = M 100 51 ∧ M1 100 52 = M 100 52 ∧ M1 103 1 = M 103 1) ∧ (a = 0 → r = 0 ∧ M1 100 0 = M 99 0 ∧ M1 100 1 = M 99 1 ∧ M1 100 2 = M 99 2 ∧ M1 100 3 = M 99 3 ∧ M1 103 0 = 1 ∧ M1 100 49 = M 100 49 ∧ M1 100 50 = M 100 50 ∧ M1 100 51 = M 100 51 ∧ M1 100 52 = M 100 52 ∧ M1 103 1 = M 103 1) ∧ (a = 1 → r = 0 ∧ M1 100 49 = M 99 0 ∧ M1 100 50 = M 99 1 ∧ M1 100 51 = M 99 2 ∧ M1 100 52 = M 99 3 ∧ M1 103 1 = 1 ∧ M1 100 0 = M 100 0 ∧ M1 100 1 = M 100 1 ∧ M1 100 2 = M 100 2 ∧ M1 100 3 = M 100 3 ∧ M1 103 0 = M 103 0)))) 0 [(0, vr X 97), (1, vi a)] [] M
  have p0 := hi.1.1
  have p1 := hi.1.2.1
  have p2 := hi.1.2.2.1
  have p3 := hi.1.2.2.2.1
  have p12 := hi.2.2.2.1
  refine g_aload_n (pc' := 1) 0 dX10_image_0 rfl rfl ?_
  refine g_iconst (pc' := 2) dX10_image_1 rfl ?_
  refine g_putI (pc' := 5) dX10_image_2 rfl p_X10_77 rfl rfl (by decide) (fun M1 hM1 => ?_)
  have iM1 : IM M1 := IM.wr hi hM1 (by unfold okv; first | decide | omega)
  have fM1 : Fr (fun c => 97 ≤ c ∧ c ≤ 116) M M1 := Fr.wr Fr.rf hM1 (by first | decide | omega | (dsimp only; omega))
  have q99_0_M1 : (M1 99 0 = M 99 0) := (show M1 99 0 = M 99 0 by rw [hM1]; exact mu_ne _ _ (by first | decide | omega))
  have q99_1_M1 : (M1 99 1 = M 99 1) := (show M1 99 1 = M 99 1 by rw [hM1]; exact mu_ne _ _ (by first | decide | omega))
  have q99_2_M1 : (M1 99 2 = M 99 2) := (show M1 99 2 = M 99 2 by rw [hM1]; exact mu_ne _ _ (by first | decide | omega))
  have q99_3_M1 : (M1 99 3 = M 99 3) := (show M1 99 3 = M 99 3 by rw [hM1]; exact mu_ne _ _ (by first | decide | omega))
  have q97_12_M1 : (M1 97 12 = M 97 12) := (show M1 97 12 = M 97 12 by rw [hM1]; exact mu_ne _ _ (by first | decide | omega))
  have q100_0_M1 : (M1 100 0 = M 100 0) := (show M1 100 0 = M 100 0 by rw [hM1]; exact mu_ne _ _ (by first | decide | omega))
  have q100_1_M1 : (M1 100 1 = M 100 1) := (show M1 100 1 = M 100 1 by rw [hM1]; exact mu_ne _ _ (by first | decide | omega))
  have q100_2_M1 : (M1 100 2 = M 100 2) := (show M1 100 2 = M 100 2 by rw [hM1]; exact mu_ne _ _ (by first | decide | omega))
  have q100_3_M1 : (M1 100 3 = M 100 3) := (show M1 100 3 = M 100 3 by rw [hM1]; exact mu_ne _ _ (by first | decide | omega))
  have q103_0_M1 : (M1 103 0 = M 103 0) := (show M1 103 0 = M 103 0 by rw [hM1]; exact mu_ne _ _ (by first | decide | omega))
  have q100_49_M1 : (M1 100 49 = M 100 49) := (show M1 100 49 = M 100 49 by rw [hM1]; exact mu_ne _ _ (by first | decide | omega))
  have q100_50_M1 : (M1 100 50 = M 100 50) := (show M1 100 50 = M 100 50 by rw [hM1]; exact mu_ne _ _ (by first | decide | omega))
  have q100_51_M1 : (M1 100 51 = M 100 51) := (show M1 100 51 = M 100 51 by rw [hM1]; exact mu_ne _ _ (by first | decide | omega))
  have q100_52_M1 : (M1 100 52 = M 100 52) := (show M1 100 52 = M 100 52 by rw [hM1]; exact mu_ne _ _ (by first | decide | omega))
  have q103_1_M1 : (M1 103 1 = M 103 1) := (show M1 103 1 = M 103 1 by rw [hM1]; exact mu_ne _ _ (by first | decide | omega))
  have wM1_100_0 : M1 100 0 = M 100 0 := by rw [hM1]; exact mu_ne _ _ (by first | decide | omega)
  have wM1_100_1 : M1 100 1 = M 100 1 := by rw [hM1]; exact mu_ne _ _ (by first | decide | omega)
  have wM1_100_2 : M1 100 2 = M 100 2 := by rw [hM1]; exact mu_ne _ _ (by first | decide | omega)
  have wM1_100_3 : M1 100 3 = M 100 3 := by rw [hM1]; exact mu_ne _ _ (by first | decide | omega)
  have wM1_103_0 : M1 103 0 = M 103 0 := by rw [hM1]; exact mu_ne _ _ (by first | decide | omega)
  have wM1_100_49 : M1 100 49 = M 100 49 := by rw [hM1]; exact mu_ne _ _ (by first | decide | omega)
  have wM1_100_50 : M1 100 50 = M 100 50 := by rw [hM1]; exact mu_ne _ _ (by first | decide | omega)
  have wM1_100_51 : M1 100 51 = M 100 51 := by rw [hM1]; exact mu_ne _ _ (by first | decide | omega)
  have wM1_100_52 : M1 100 52 = M 100 52 := by rw [hM1]; exact mu_ne _ _ (by first | decide | omega)
  have wM1_103_1 : M1 103 1 = M 103 1 := by rw [hM1]; exact mu_ne _ _ (by first | decide | omega)
  have xM1_97_0 : M1 97 0 = 0 := by rw [hM1]; exact mu_at _ _ _ _
  have e99M1 : M1 99 = M 99 := by rw [hM1, mu_cell _ _ (by decide)]
  have e101M1 : M1 101 = M 101 := by rw [hM1, mu_cell _ _ (by decide)]
  have e103M1 : M1 103 = M 103 := by rw [hM1, mu_cell _ _ (by decide)]
  have e102M1 : M1 102 = M 102 := by rw [hM1, mu_cell _ _ (by decide)]
  have e44M1 : M1 97 44 = M 97 44 := by rw [hM1, mu_ne _ _ (by first | decide | omega)]
  have us0M1 : ∀ q : Nat, (q < 49 * a.toNat ∨ 49 * a.toNat + 49 ≤ q) → M1 100 q = M 100 q := fun q _ => by rw [hM1, mu_cell _ _ (by decide)]
  refine g_iload_n (pc' := 6) 1 dX10_image_5 rfl rfl ?_
  refine g_i2l (pc' := 7) ha dX10_image_6 rfl ?_
  refine g_lconst (pc' := 8) (v := 0) dX10_image_7 rfl (by decide) ?_
  refine g_lconst (pc' := 9) (v := 1) dX10_image_8 rfl (by decide) ?_
  refine g_callSip (pc' := 12) (As := [vl a, vl 0, vl 1]) (S := []) dX10_image_9 rfl m_X10_83 w_X10_in (c_X10_in X M1 a ⟨by omega, by omega⟩ 0 (by decide) 1 (by decide)) rfl (by decide) (by decide) rfl (Nat.le_of_ble_eq_true rfl) (fun z3 q2 => ?_)
  refine g_if_ne (pc' := 15) (tgt := 21) ⟨by omega, by omega⟩ dX10_image_12 rfl rfl (fun c4 => ?_) (fun c4 => ?_)
  · replace q2 := q2.resolve_right (fun h => c4 h.1)
    refine g_iconst (pc' := 22) dX10_image_21 rfl ?_
    refine g_istore_n (pc' := 23) (i := 2) (L' := [(2, vi 0), (0, vr X 97), (1, vi a)]) dX10_image_22 rfl rfl (by decide) rfl ?_
    refine g_sub [0, 1, 2] rfl ?_
    exact l_X10_image_23 X M hi a ha _ 0 M1 fM1 q99_0_M1 q99_1_M1 q99_2_M1 q99_3_M1 q97_12_M1 (by omega) (by omega) e99M1 e101M1 e44M1 e103M1 (by omega) e102M1 (fun j hj => by omega) us0M1 rfl
  · replace q2 := q2.resolve_left (fun h => absurd (c4.symm.trans h.1) (by decide))
    refine g_aload_n (pc' := 16) 0 dX10_image_15 rfl rfl ?_
    refine g_iconst (pc' := 17) dX10_image_16 rfl ?_
    refine g_callVi (pc' := 20) (As := [vi (-1)]) (b := 97) (S := []) dX10_image_17 rfl m_X10_87 w_X10_tell (c_X10_tell X M1 iM1 (-1) (by decide) (by omega)) rfl ⟨_, _, _, rfl, rfl, rfl⟩ (by decide) (by decide) rfl (Nat.le_of_ble_eq_true rfl) (fun z6 M7 q5 => ?_)
    obtain ⟨iM7, fM70, eM7_99_0, eM7_99_1, eM7_99_2, eM7_99_3, eM7_100_0, eM7_100_1, eM7_100_2, eM7_100_3, eM7_100_49, eM7_100_50, eM7_100_51, eM7_100_52, eM7_103_0, eM7_103_1, eM7_97_12, pM7⟩ := q5
    have fM7 : Fr (fun c => 97 ≤ c ∧ c ≤ 116) M M7 := Fr.tr fM1 fM70 fi_23
    have q99_0_M7 : (M7 99 0 = M 99 0) := eM7_99_0.trans q99_0_M1
    have q99_1_M7 : (M7 99 1 = M 99 1) := eM7_99_1.trans q99_1_M1
    have q99_2_M7 : (M7 99 2 = M 99 2) := eM7_99_2.trans q99_2_M1
    have q99_3_M7 : (M7 99 3 = M 99 3) := eM7_99_3.trans q99_3_M1
    have q97_12_M7 : (M7 97 12 = M 97 12) := eM7_97_12.trans q97_12_M1
    have q100_0_M7 : (M7 100 0 = M 100 0) := eM7_100_0.trans q100_0_M1
    have q100_1_M7 : (M7 100 1 = M 100 1) := eM7_100_1.trans q100_1_M1
    have q100_2_M7 : (M7 100 2 = M 100 2) := eM7_100_2.trans q100_2_M1
    have q100_3_M7 : (M7 100 3 = M 100 3) := eM7_100_3.trans q100_3_M1
    have q103_0_M7 : (M7 103 0 = M 103 0) := eM7_103_0.trans q103_0_M1
    have q100_49_M7 : (M7 100 49 = M 100 49) := eM7_100_49.trans q100_49_M1
    have q100_50_M7 : (M7 100 50 = M 100 50) := eM7_100_50.trans q100_50_M1
    have q100_51_M7 : (M7 100 51 = M 100 51) := eM7_100_51.trans q100_51_M1
    have q100_52_M7 : (M7 100 52 = M 100 52) := eM7_100_52.trans q100_52_M1
    have q103_1_M7 : (M7 103 1 = M 103 1) := eM7_103_1.trans q103_1_M1
    have wM7_100_0 : M7 100 0 = M1 100 0 := eM7_100_0
    have wM7_100_1 : M7 100 1 = M1 100 1 := eM7_100_1
    have wM7_100_2 : M7 100 2 = M1 100 2 := eM7_100_2
    have wM7_100_3 : M7 100 3 = M1 100 3 := eM7_100_3
    have wM7_103_0 : M7 103 0 = M1 103 0 := eM7_103_0
    have wM7_100_49 : M7 100 49 = M1 100 49 := eM7_100_49
    have wM7_100_50 : M7 100 50 = M1 100 50 := eM7_100_50
    have wM7_100_51 : M7 100 51 = M1 100 51 := eM7_100_51
    have wM7_100_52 : M7 100 52 = M1 100 52 := eM7_100_52
    have wM7_103_1 : M7 103 1 = M1 103 1 := eM7_103_1
    refine g_ireturn dX10_image_20 ?_
    exact ⟨iM7, fM7, q99_0_M7, q99_1_M7, q99_2_M7, q99_3_M7, q97_12_M7, by omega⟩
set_option maxHeartbeats 4000000 in
set_option maxRecDepth 100000 in
theorem l_X10_back_70 (X : Cx) (M : Mm) (hi : IM M) (a : Int) (ha : inI a) : ∀ (kk : Nat) (i : Int) (M1 : Mm) (fr1 : Fr (fun c => 97 ≤ c ∧ c ≤ 116) M M1) (q100_0 : id (M1 100 0 = M 100 0)) (q100_1 : id (M1 100 1 = M 100 1)) (q100_2 : id (M1 100 2 = M 100 2)) (q100_3 : id (M1 100 3 = M 100 3)) (q100_49 : id (M1 100 49 = M 100 49)) (q100_50 : id (M1 100 50 = M 100 50)) (q100_51 : id (M1 100 51 = M 100 51)) (q100_52 : id (M1 100 52 = M 100 52)) (q103_0 : id (M1 103 0 = M 103 0)) (q103_1 : id (M1 103 1 = M 103 1)) (q97_12 : (M1 97 12 = M 97 12)) (a01 : 0 ≤ a ∧ a ≤ 1) (k0 : 0 ≤ i) (e100 : M1 100 = M 100) (e102 : M1 102 = M 102) (e103 : M1 103 = M 103) (e44 : M1 97 44 = M 97 44) (hkz : M 103 a.toNat ≠ 0) (k1 : i ≤ 25) (cR : ∀ j : Nat, j < 49 → M1 99 j = M 100 (49 * a.toNat + j)) (cp : ∀ j : Nat, (j : Int) < i → M1 101 (0 + j) = M 102 (25 * a.toNat + j)), (25 - i).toNat = kk → G X 12 RX10 cX10_back 3 (some .int) (Qi (fun r M1 => IM M1 ∧ Fr (fun c => 97 ≤ c ∧ c ≤ 116) M M1 ∧ M1 100 0 = M 100 0 ∧ M1 100 1 = M 100 1 ∧ M1 100 2 = M 100 2 ∧ M1 100 3 = M 100 3 ∧ M1 100 49 = M 100 49 ∧ M1 100 50 = M 100 50 ∧ M1 100 51 = M 100 51 ∧ M1 100 52 = M 100 52 ∧ M1 103 0 = M 103 0 ∧ M1 103 1 = M 103 1 ∧ M1 97 12 = M 97 12 ∧ (((a < 0 ∨ 1 < a) → r = -1 ∧ M1 99 0 = M 99 0 ∧ M1 99 1 = M 99 1 ∧ M1 99 2 = M 99 2 ∧ M1 99 3 = M 99 3) ∧ (a = 0 → M 103 0 = 0 → r = -2 ∧ M1 99 0 = M 99 0 ∧ M1 99 1 = M 99 1 ∧ M1 99 2 = M 99 2 ∧ M1 99 3 = M 99 3) ∧ (a = 1 → M 103 1 = 0 → r = -2 ∧ M1 99 0 = M 99 0 ∧ M1 99 1 = M 99 1 ∧ M1 99 2 = M 99 2 ∧ M1 99 3 = M 99 3) ∧ (a = 0 → M 103 0 ≠ 0 → r = 0 ∧ M1 99 0 = M 100 0 ∧ M1 99 1 = M 100 1 ∧ M1 99 2 = M 100 2 ∧ M1 99 3 = M 100 3) ∧ (a = 1 → M 103 1 ≠ 0 → r = 0 ∧ M1 99 0 = M 100 49 ∧ M1 99 1 = M 100 50 ∧ M1 99 2 = M 100 51 ∧ M1 99 3 = M 100 52)))) 70 [(2, vi i), (0, vr X 97), (1, vi a)] [] M1 := by
  intro kk
  induction kk using Nat.strongRecOn with
  | ind kk ih =>
    intro i M1 fr1 q100_0 q100_1 q100_2 q100_3 q100_49 q100_50 q100_51 q100_52 q103_0 q103_1 q97_12 a01 k0 e100 e102 e103 e44 hkz k1 cR cp hmes
    refine g_iload_n (pc' := 71) 0 dX10_back_70 rfl rfl ?_
    refine g_bipush (pc' := 73) (v := 25) dX10_back_71 rfl (by decide) ?_
    refine g_ic_ge (pc' := 76) (tgt := 99) ⟨by omega, by omega⟩ (by decide) dX10_back_73 rfl rfl (fun c1 => ?_) (fun c1 => ?_)
    · have iB : IM M1 := IM.back (k := a.toNat) hi (by omega) hkz e100 e102 e103 q97_12 e44 cR (fun j hj => by have := cp j (by omega); rw [Nat.zero_add] at this; exact this)
      have g0 : a = 0 → M 103 0 ≠ 0 ∧ M1 99 0 = M 100 0 ∧ M1 99 1 = M 100 1 ∧ M1 99 2 = M 100 2 ∧ M1 99 3 = M 100 3 := fun z => by
        subst z
        exact ⟨hkz, cR 0 (by omega), cR 1 (by omega), cR 2 (by omega), cR 3 (by omega)⟩
      have g1 : a = 1 → M 103 1 ≠ 0 ∧ M1 99 0 = M 100 49 ∧ M1 99 1 = M 100 50 ∧ M1 99 2 = M 100 51 ∧ M1 99 3 = M 100 52 := fun z => by
        subst z
        exact ⟨hkz, cR 0 (by omega), cR 1 (by omega), cR 2 (by omega), cR 3 (by omega)⟩
      refine g_aload_n (pc' := 100) 1 dX10_back_99 rfl rfl ?_
      refine g_iconst (pc' := 101) dX10_back_100 rfl ?_
      refine g_callVi (pc' := 104) (As := [vi 0]) (b := 97) (S := []) dX10_back_101 rfl m_X10_87 w_X10_tell (c_X10_tell X M1 iB 0 (by decide) (by omega)) rfl ⟨_, _, _, rfl, rfl, rfl⟩ (by decide) (by decide) rfl (Nat.le_of_ble_eq_true rfl) (fun z3 M4 q2 => ?_)
      obtain ⟨iM4, fM40, eM4_99_0, eM4_99_1, eM4_99_2, eM4_99_3, eM4_100_0, eM4_100_1, eM4_100_2, eM4_100_3, eM4_100_49, eM4_100_50, eM4_100_51, eM4_100_52, eM4_103_0, eM4_103_1, eM4_97_12, pM4⟩ := q2
      have fM4 : Fr (fun c => 97 ≤ c ∧ c ≤ 116) M M4 := Fr.tr fr1 fM40 fi_23
      have q100_0_M4 : id (M4 100 0 = M 100 0) := eM4_100_0.trans q100_0
      have q100_1_M4 : id (M4 100 1 = M 100 1) := eM4_100_1.trans q100_1
      have q100_2_M4 : id (M4 100 2 = M 100 2) := eM4_100_2.trans q100_2
      have q100_3_M4 : id (M4 100 3 = M 100 3) := eM4_100_3.trans q100_3
      have q100_49_M4 : id (M4 100 49 = M 100 49) := eM4_100_49.trans q100_49
      have q100_50_M4 : id (M4 100 50 = M 100 50) := eM4_100_50.trans q100_50
      have q100_51_M4 : id (M4 100 51 = M 100 51) := eM4_100_51.trans q100_51
      have q100_52_M4 : id (M4 100 52 = M 100 52) := eM4_100_52.trans q100_52
      have q103_0_M4 : id (M4 103 0 = M 103 0) := eM4_103_0.trans q103_0
      have q103_1_M4 : id (M4 103 1 = M 103 1) := eM4_103_1.trans q103_1
      have q97_12_M4 : (M4 97 12 = M 97 12) := eM4_97_12.trans q97_12
      have wM4_99_0 : M4 99 0 = M1 99 0 := eM4_99_0
      have wM4_99_1 : M4 99 1 = M1 99 1 := eM4_99_1
      have wM4_99_2 : M4 99 2 = M1 99 2 := eM4_99_2
      have wM4_99_3 : M4 99 3 = M1 99 3 := eM4_99_3
      clear eM4_100_0 eM4_100_1 eM4_100_2 eM4_100_3 eM4_100_49 eM4_100_50 eM4_100_51 eM4_100_52 eM4_103_0 eM4_103_1
      refine g_ireturn dX10_back_104 ?_
      exact ⟨iM4, fM4, q100_0_M4, q100_1_M4, q100_2_M4, q100_3_M4, q100_49_M4, q100_50_M4, q100_51_M4, q100_52_M4, q103_0_M4, q103_1_M4, q97_12_M4, by omega⟩
    · refine g_aload_n (pc' := 77) 1 dX10_back_76 rfl rfl ?_
      refine g_getR (pc' := 80) dX10_back_77 rfl f_X10_19 rfl rfl ?_
      refine g_iload_n (pc' := 81) 0 dX10_back_80 rfl rfl ?_
      refine g_aload_n (pc' := 82) 1 dX10_back_81 rfl rfl ?_
      refine g_getR (pc' := 85) dX10_back_82 rfl f_X10_23 rfl rfl ?_
      refine g_bipush (pc' := 87) (v := 25) dX10_back_85 rfl (by decide) ?_
      refine g_iload_n (pc' := 88) 2 dX10_back_87 rfl rfl ?_
      refine g_imul (pc' := 89) dX10_back_88 rfl ?_
      refine g_iload_n (pc' := 90) 0 dX10_back_89 rfl rfl ?_
      refine g_iadd (pc' := 91) dX10_back_90 rfl ?_
      refine g_lald (pc' := 92) dX10_back_91 rfl rfl (by omega) (by omega) (fun v5 ev5 rv5 => ?_)
      have gv5 : v5 = M 102 (25 * a.toNat + i.toNat) := by rw [ev5, e102, show (25 * a + i).toNat = 25 * a.toNat + i.toNat by omega]
      refine g_last (pc' := 93) dX10_back_92 rfl rfl (by omega) (by omega) rv5 (fun M6 hM6 => ?_)
      have fM6 : Fr (fun c => 97 ≤ c ∧ c ≤ 116) M M6 := Fr.wr fr1 hM6 (by first | decide | omega | (dsimp only; omega))
      have q100_0_M6 : id (M6 100 0 = M 100 0) := (show M6 100 0 = M1 100 0 by rw [hM6]; exact mu_ne _ _ (by first | decide | omega)).trans q100_0
      have q100_1_M6 : id (M6 100 1 = M 100 1) := (show M6 100 1 = M1 100 1 by rw [hM6]; exact mu_ne _ _ (by first | decide | omega)).trans q100_1
      have q100_2_M6 : id (M6 100 2 = M 100 2) := (show M6 100 2 = M1 100 2 by rw [hM6]; exact mu_ne _ _ (by first | decide | omega)).trans q100_2
      have q100_3_M6 : id (M6 100 3 = M 100 3) := (show M6 100 3 = M1 100 3 by rw [hM6]; exact mu_ne _ _ (by first | decide | omega)).trans q100_3
      have q100_49_M6 : id (M6 100 49 = M 100 49) := (show M6 100 49 = M1 100 49 by rw [hM6]; exact mu_ne _ _ (by first | decide | omega)).trans q100_49
      have q100_50_M6 : id (M6 100 50 = M 100 50) := (show M6 100 50 = M1 100 50 by rw [hM6]; exact mu_ne _ _ (by first | decide | omega)).trans q100_50
      have q100_51_M6 : id (M6 100 51 = M 100 51) := (show M6 100 51 = M1 100 51 by rw [hM6]; exact mu_ne _ _ (by first | decide | omega)).trans q100_51
      have q100_52_M6 : id (M6 100 52 = M 100 52) := (show M6 100 52 = M1 100 52 by rw [hM6]; exact mu_ne _ _ (by first | decide | omega)).trans q100_52
      have q103_0_M6 : id (M6 103 0 = M 103 0) := (show M6 103 0 = M1 103 0 by rw [hM6]; exact mu_ne _ _ (by first | decide | omega)).trans q103_0
      have q103_1_M6 : id (M6 103 1 = M 103 1) := (show M6 103 1 = M1 103 1 by rw [hM6]; exact mu_ne _ _ (by first | decide | omega)).trans q103_1
      have q97_12_M6 : (M6 97 12 = M 97 12) := (show M6 97 12 = M1 97 12 by rw [hM6]; exact mu_ne _ _ (by first | decide | omega)).trans q97_12
      have wM6_99_0 : M6 99 0 = M1 99 0 := by rw [hM6]; exact mu_ne _ _ (by first | decide | omega)
      have wM6_99_1 : M6 99 1 = M1 99 1 := by rw [hM6]; exact mu_ne _ _ (by first | decide | omega)
      have wM6_99_2 : M6 99 2 = M1 99 2 := by rw [hM6]; exact mu_ne _ _ (by first | decide | omega)
      have wM6_99_3 : M6 99 3 = M1 99 3 := by rw [hM6]; exact mu_ne _ _ (by first | decide | omega)
      have e100M6 : M6 100 = M 100 := by rw [hM6, mu_cell _ _ (by decide)]; exact e100
      have e102M6 : M6 102 = M 102 := by rw [hM6, mu_cell _ _ (by decide)]; exact e102
      have e103M6 : M6 103 = M 103 := by rw [hM6, mu_cell _ _ (by decide)]; exact e103
      have e44M6 : M6 97 44 = M 97 44 := by rw [hM6, mu_ne _ _ (by first | decide | omega)]; exact e44
      have cRM6 : ∀ j : Nat, j < 49 → M6 99 j = M 100 (49 * a.toNat + j) := fun j hj => by rw [hM6, mu_cell _ _ (by decide)]; exact cR j hj
      refine g_iinc (pc' := 96) (L' := [(2, vi (i + 1)), (0, vr X 97), (1, vi a)]) 0 dX10_back_93 rfl rfl (by decide) rfl ?_
      refine g_goto (tgt := 70) dX10_back_96 rfl ?_
      refine g_sub [0, 1, 2] rfl ?_
      exact ih _ (by omega) (i + 1) M6 fM6 q100_0_M6 q100_1_M6 q100_2_M6 q100_3_M6 q100_49_M6 q100_50_M6 q100_51_M6 q100_52_M6 q103_0_M6 q103_1_M6 q97_12_M6 (by omega) (by omega) e100M6 e102M6 e103M6 e44M6 hkz (by omega) cRM6 (cstep (F := fun j => M 102 (25 * a.toNat + j)) cp hM6 (by omega) k0 gv5) rfl
set_option maxHeartbeats 4000000 in
set_option maxRecDepth 100000 in
theorem l_X10_back_39 (X : Cx) (M : Mm) (hi : IM M) (a : Int) (ha : inI a) : ∀ (kk : Nat) (i : Int) (M1 : Mm) (fr1 : Fr (fun c => 97 ≤ c ∧ c ≤ 116) M M1) (q100_0 : id (M1 100 0 = M 100 0)) (q100_1 : id (M1 100 1 = M 100 1)) (q100_2 : id (M1 100 2 = M 100 2)) (q100_3 : id (M1 100 3 = M 100 3)) (q100_49 : id (M1 100 49 = M 100 49)) (q100_50 : id (M1 100 50 = M 100 50)) (q100_51 : id (M1 100 51 = M 100 51)) (q100_52 : id (M1 100 52 = M 100 52)) (q103_0 : id (M1 103 0 = M 103 0)) (q103_1 : id (M1 103 1 = M 103 1)) (q97_12 : (M1 97 12 = M 97 12)) (a01 : 0 ≤ a ∧ a ≤ 1) (k0 : 0 ≤ i) (e100 : M1 100 = M 100) (e102 : M1 102 = M 102) (e103 : M1 103 = M 103) (e44 : M1 97 44 = M 97 44) (hkz : M 103 a.toNat ≠ 0) (k1 : i ≤ 49) (cp : ∀ j : Nat, (j : Int) < i → M1 99 (0 + j) = M 100 (49 * a.toNat + j)), (49 - i).toNat = kk → G X 12 RX10 cX10_back 3 (some .int) (Qi (fun r M1 => IM M1 ∧ Fr (fun c => 97 ≤ c ∧ c ≤ 116) M M1 ∧ M1 100 0 = M 100 0 ∧ M1 100 1 = M 100 1 ∧ M1 100 2 = M 100 2 ∧ M1 100 3 = M 100 3 ∧ M1 100 49 = M 100 49 ∧ M1 100 50 = M 100 50 ∧ M1 100 51 = M 100 51 ∧ M1 100 52 = M 100 52 ∧ M1 103 0 = M 103 0 ∧ M1 103 1 = M 103 1 ∧ M1 97 12 = M 97 12 ∧ (((a < 0 ∨ 1 < a) → r = -1 ∧ M1 99 0 = M 99 0 ∧ M1 99 1 = M 99 1 ∧ M1 99 2 = M 99 2 ∧ M1 99 3 = M 99 3) ∧ (a = 0 → M 103 0 = 0 → r = -2 ∧ M1 99 0 = M 99 0 ∧ M1 99 1 = M 99 1 ∧ M1 99 2 = M 99 2 ∧ M1 99 3 = M 99 3) ∧ (a = 1 → M 103 1 = 0 → r = -2 ∧ M1 99 0 = M 99 0 ∧ M1 99 1 = M 99 1 ∧ M1 99 2 = M 99 2 ∧ M1 99 3 = M 99 3) ∧ (a = 0 → M 103 0 ≠ 0 → r = 0 ∧ M1 99 0 = M 100 0 ∧ M1 99 1 = M 100 1 ∧ M1 99 2 = M 100 2 ∧ M1 99 3 = M 100 3) ∧ (a = 1 → M 103 1 ≠ 0 → r = 0 ∧ M1 99 0 = M 100 49 ∧ M1 99 1 = M 100 50 ∧ M1 99 2 = M 100 51 ∧ M1 99 3 = M 100 52)))) 39 [(2, vi i), (0, vr X 97), (1, vi a)] [] M1 := by
  intro kk
  induction kk using Nat.strongRecOn with
  | ind kk ih =>
    intro i M1 fr1 q100_0 q100_1 q100_2 q100_3 q100_49 q100_50 q100_51 q100_52 q103_0 q103_1 q97_12 a01 k0 e100 e102 e103 e44 hkz k1 cp hmes
    refine g_iload_n (pc' := 40) 0 dX10_back_39 rfl rfl ?_
    refine g_bipush (pc' := 42) (v := 49) dX10_back_40 rfl (by decide) ?_
    refine g_ic_ge (pc' := 45) (tgt := 68) ⟨by omega, by omega⟩ (by decide) dX10_back_42 rfl rfl (fun c1 => ?_) (fun c1 => ?_)
    · refine g_iconst (pc' := 69) dX10_back_68 rfl ?_
      refine g_istore_n (pc' := 70) (i := 2) (L' := [(2, vi 0), (0, vr X 97), (1, vi a)]) dX10_back_69 rfl rfl (by decide) rfl ?_
      refine g_sub [0, 1, 2] rfl ?_
      exact l_X10_back_70 X M hi a ha _ 0 M1 fr1 q100_0 q100_1 q100_2 q100_3 q100_49 q100_50 q100_51 q100_52 q103_0 q103_1 q97_12 (by omega) (by omega) e100 e102 e103 e44 hkz (by omega) (fun j hj => by have := cp j (by omega); rw [Nat.zero_add] at this; exact this) (fun j hj => by omega) rfl
    · refine g_aload_n (pc' := 46) 1 dX10_back_45 rfl rfl ?_
      refine g_getR (pc' := 49) dX10_back_46 rfl f_X10_13 rfl rfl ?_
      refine g_iload_n (pc' := 50) 0 dX10_back_49 rfl rfl ?_
      refine g_aload_n (pc' := 51) 1 dX10_back_50 rfl rfl ?_
      refine g_getR (pc' := 54) dX10_back_51 rfl f_X10_16 rfl rfl ?_
      refine g_bipush (pc' := 56) (v := 49) dX10_back_54 rfl (by decide) ?_
      refine g_iload_n (pc' := 57) 2 dX10_back_56 rfl rfl ?_
      refine g_imul (pc' := 58) dX10_back_57 rfl ?_
      refine g_iload_n (pc' := 59) 0 dX10_back_58 rfl rfl ?_
      refine g_iadd (pc' := 60) dX10_back_59 rfl ?_
      refine g_iald (pc' := 61) dX10_back_60 rfl rfl (by omega) (by omega) (fun v2 ev2 rv2 => ?_)
      have gv2 : v2 = M 100 (49 * a.toNat + i.toNat) := by rw [ev2, e100, show (49 * a + i).toNat = 49 * a.toNat + i.toNat by omega]
      refine g_iast (pc' := 62) dX10_back_61 rfl rfl (by omega) (by omega) rv2 (fun M3 hM3 => ?_)
      have fM3 : Fr (fun c => 97 ≤ c ∧ c ≤ 116) M M3 := Fr.wr fr1 hM3 (by first | decide | omega | (dsimp only; omega))
      have q100_0_M3 : id (M3 100 0 = M 100 0) := (show M3 100 0 = M1 100 0 by rw [hM3]; exact mu_ne _ _ (by first | decide | omega)).trans q100_0
      have q100_1_M3 : id (M3 100 1 = M 100 1) := (show M3 100 1 = M1 100 1 by rw [hM3]; exact mu_ne _ _ (by first | decide | omega)).trans q100_1
      have q100_2_M3 : id (M3 100 2 = M 100 2) := (show M3 100 2 = M1 100 2 by rw [hM3]; exact mu_ne _ _ (by first | decide | omega)).trans q100_2
      have q100_3_M3 : id (M3 100 3 = M 100 3) := (show M3 100 3 = M1 100 3 by rw [hM3]; exact mu_ne _ _ (by first | decide | omega)).trans q100_3
      have q100_49_M3 : id (M3 100 49 = M 100 49) := (show M3 100 49 = M1 100 49 by rw [hM3]; exact mu_ne _ _ (by first | decide | omega)).trans q100_49
      have q100_50_M3 : id (M3 100 50 = M 100 50) := (show M3 100 50 = M1 100 50 by rw [hM3]; exact mu_ne _ _ (by first | decide | omega)).trans q100_50
      have q100_51_M3 : id (M3 100 51 = M 100 51) := (show M3 100 51 = M1 100 51 by rw [hM3]; exact mu_ne _ _ (by first | decide | omega)).trans q100_51
      have q100_52_M3 : id (M3 100 52 = M 100 52) := (show M3 100 52 = M1 100 52 by rw [hM3]; exact mu_ne _ _ (by first | decide | omega)).trans q100_52
      have q103_0_M3 : id (M3 103 0 = M 103 0) := (show M3 103 0 = M1 103 0 by rw [hM3]; exact mu_ne _ _ (by first | decide | omega)).trans q103_0
      have q103_1_M3 : id (M3 103 1 = M 103 1) := (show M3 103 1 = M1 103 1 by rw [hM3]; exact mu_ne _ _ (by first | decide | omega)).trans q103_1
      have q97_12_M3 : (M3 97 12 = M 97 12) := (show M3 97 12 = M1 97 12 by rw [hM3]; exact mu_ne _ _ (by first | decide | omega)).trans q97_12
      have e100M3 : M3 100 = M 100 := by rw [hM3, mu_cell _ _ (by decide)]; exact e100
      have e102M3 : M3 102 = M 102 := by rw [hM3, mu_cell _ _ (by decide)]; exact e102
      have e103M3 : M3 103 = M 103 := by rw [hM3, mu_cell _ _ (by decide)]; exact e103
      have e44M3 : M3 97 44 = M 97 44 := by rw [hM3, mu_ne _ _ (by first | decide | omega)]; exact e44
      refine g_iinc (pc' := 65) (L' := [(2, vi (i + 1)), (0, vr X 97), (1, vi a)]) 0 dX10_back_62 rfl rfl (by decide) rfl ?_
      refine g_goto (tgt := 39) dX10_back_65 rfl ?_
      refine g_sub [0, 1, 2] rfl ?_
      exact ih _ (by omega) (i + 1) M3 fM3 q100_0_M3 q100_1_M3 q100_2_M3 q100_3_M3 q100_49_M3 q100_50_M3 q100_51_M3 q100_52_M3 q103_0_M3 q103_1_M3 q97_12_M3 (by omega) (by omega) e100M3 e102M3 e103M3 e44M3 hkz (by omega) (cstep (F := fun j => M 100 (49 * a.toNat + j)) cp hM3 (by omega) k0 gv2) rfl
set_option maxHeartbeats 4000000 in
set_option maxRecDepth 100000 in
theorem c_X10_back (X : Cx) (M : Mm) (hi : IM M) (a : Int) (ha : inI a) : Con X 12 yX10_back cX10_back 3 (some .int) [vr X 97, vi a] M (Qi (fun r M1 => IM M1 ∧ Fr (fun c => 97 ≤ c ∧ c ≤ 116) M M1 ∧ M1 100 0 = M 100 0 ∧ M1 100 1 = M 100 1 ∧ M1 100 2 = M 100 2 ∧ M1 100 3 = M 100 3 ∧ M1 100 49 = M 100 49 ∧ M1 100 50 = M 100 50 ∧ M1 100 51 = M 100 51 ∧ M1 100 52 = M 100 52 ∧ M1 103 0 = M 103 0 ∧ M1 103 1 = M 103 1 ∧ M1 97 12 = M 97 12 ∧ (((a < 0 ∨ 1 < a) → r = -1 ∧ M1 99 0 = M 99 0 ∧ M1 99 1 = M 99 1 ∧ M1 99 2 = M 99 2 ∧ M1 99 3 = M 99 3) ∧ (a = 0 → M 103 0 = 0 → r = -2 ∧ M1 99 0 = M 99 0 ∧ M1 99 1 = M 99 1 ∧ M1 99 2 = M 99 2 ∧ M1 99 3 = M 99 3) ∧ (a = 1 → M 103 1 = 0 → r = -2 ∧ M1 99 0 = M 99 0 ∧ M1 99 1 = M 99 1 ∧ M1 99 2 = M 99 2 ∧ M1 99 3 = M 99 3) ∧ (a = 0 → M 103 0 ≠ 0 → r = 0 ∧ M1 99 0 = M 100 0 ∧ M1 99 1 = M 100 1 ∧ M1 99 2 = M 100 2 ∧ M1 99 3 = M 100 3) ∧ (a = 1 → M 103 1 ≠ 0 → r = 0 ∧ M1 99 0 = M 100 49 ∧ M1 99 1 = M 100 50 ∧ M1 99 2 = M 100 51 ∧ M1 99 3 = M 100 52)))) := by
  refine Con.ofG rfl (Nat.le_of_ble_eq_true rfl) ?_
  show G X 12 RX10 cX10_back 3 (some .int) (Qi (fun r M1 => IM M1 ∧ Fr (fun c => 97 ≤ c ∧ c ≤ 116) M M1 ∧ M1 100 0 = M 100 0 ∧ M1 100 1 = M 100 1 ∧ M1 100 2 = M 100 2 ∧ M1 100 3 = M 100 3 ∧ M1 100 49 = M 100 49 ∧ M1 100 50 = M 100 50 ∧ M1 100 51 = M 100 51 ∧ M1 100 52 = M 100 52 ∧ M1 103 0 = M 103 0 ∧ M1 103 1 = M 103 1 ∧ M1 97 12 = M 97 12 ∧ (((a < 0 ∨ 1 < a) → r = -1 ∧ M1 99 0 = M 99 0 ∧ M1 99 1 = M 99 1 ∧ M1 99 2 = M 99 2 ∧ M1 99 3 = M 99 3) ∧ (a = 0 → M 103 0 = 0 → r = -2 ∧ M1 99 0 = M 99 0 ∧ M1 99 1 = M 99 1 ∧ M1 99 2 = M 99 2 ∧ M1 99 3 = M 99 3) ∧ (a = 1 → M 103 1 = 0 → r = -2 ∧ M1 99 0 = M 99 0 ∧ M1 99 1 = M 99 1 ∧ M1 99 2 = M 99 2 ∧ M1 99 3 = M 99 3) ∧ (a = 0 → M 103 0 ≠ 0 → r = 0 ∧ M1 99 0 = M 100 0 ∧ M1 99 1 = M 100 1 ∧ M1 99 2 = M 100 2 ∧ M1 99 3 = M 100 3) ∧ (a = 1 → M 103 1 ≠ 0 → r = 0 ∧ M1 99 0 = M 100 49 ∧ M1 99 1 = M 100 50 ∧ M1 99 2 = M 100 51 ∧ M1 99 3 = M 100 52)))) 0 [(0, vr X 97), (1, vi a)] [] M
  have p0 := hi.1.1
  have p1 := hi.1.2.1
  have p2 := hi.1.2.2.1
  have p3 := hi.1.2.2.2.1
  have p12 := hi.2.2.2.1
  refine g_aload_n (pc' := 1) 0 dX10_back_0 rfl rfl ?_
  refine g_iconst (pc' := 2) dX10_back_1 rfl ?_
  refine g_putI (pc' := 5) dX10_back_2 rfl p_X10_77 rfl rfl (by decide) (fun M1 hM1 => ?_)
  have iM1 : IM M1 := IM.wr hi hM1 (by unfold okv; first | decide | omega)
  have fM1 : Fr (fun c => 97 ≤ c ∧ c ≤ 116) M M1 := Fr.wr Fr.rf hM1 (by first | decide | omega | (dsimp only; omega))
  have q100_0_M1 : id (M1 100 0 = M 100 0) := (show M1 100 0 = M 100 0 by rw [hM1]; exact mu_ne _ _ (by first | decide | omega))
  have q100_1_M1 : id (M1 100 1 = M 100 1) := (show M1 100 1 = M 100 1 by rw [hM1]; exact mu_ne _ _ (by first | decide | omega))
  have q100_2_M1 : id (M1 100 2 = M 100 2) := (show M1 100 2 = M 100 2 by rw [hM1]; exact mu_ne _ _ (by first | decide | omega))
  have q100_3_M1 : id (M1 100 3 = M 100 3) := (show M1 100 3 = M 100 3 by rw [hM1]; exact mu_ne _ _ (by first | decide | omega))
  have q100_49_M1 : id (M1 100 49 = M 100 49) := (show M1 100 49 = M 100 49 by rw [hM1]; exact mu_ne _ _ (by first | decide | omega))
  have q100_50_M1 : id (M1 100 50 = M 100 50) := (show M1 100 50 = M 100 50 by rw [hM1]; exact mu_ne _ _ (by first | decide | omega))
  have q100_51_M1 : id (M1 100 51 = M 100 51) := (show M1 100 51 = M 100 51 by rw [hM1]; exact mu_ne _ _ (by first | decide | omega))
  have q100_52_M1 : id (M1 100 52 = M 100 52) := (show M1 100 52 = M 100 52 by rw [hM1]; exact mu_ne _ _ (by first | decide | omega))
  have q103_0_M1 : id (M1 103 0 = M 103 0) := (show M1 103 0 = M 103 0 by rw [hM1]; exact mu_ne _ _ (by first | decide | omega))
  have q103_1_M1 : id (M1 103 1 = M 103 1) := (show M1 103 1 = M 103 1 by rw [hM1]; exact mu_ne _ _ (by first | decide | omega))
  have q97_12_M1 : (M1 97 12 = M 97 12) := (show M1 97 12 = M 97 12 by rw [hM1]; exact mu_ne _ _ (by first | decide | omega))
  have q99_0_M1 : (M1 99 0 = M 99 0) := (show M1 99 0 = M 99 0 by rw [hM1]; exact mu_ne _ _ (by first | decide | omega))
  have q99_1_M1 : (M1 99 1 = M 99 1) := (show M1 99 1 = M 99 1 by rw [hM1]; exact mu_ne _ _ (by first | decide | omega))
  have q99_2_M1 : (M1 99 2 = M 99 2) := (show M1 99 2 = M 99 2 by rw [hM1]; exact mu_ne _ _ (by first | decide | omega))
  have q99_3_M1 : (M1 99 3 = M 99 3) := (show M1 99 3 = M 99 3 by rw [hM1]; exact mu_ne _ _ (by first | decide | omega))
  have wM1_99_0 : M1 99 0 = M 99 0 := by rw [hM1]; exact mu_ne _ _ (by first | decide | omega)
  have wM1_99_1 : M1 99 1 = M 99 1 := by rw [hM1]; exact mu_ne _ _ (by first | decide | omega)
  have wM1_99_2 : M1 99 2 = M 99 2 := by rw [hM1]; exact mu_ne _ _ (by first | decide | omega)
  have wM1_99_3 : M1 99 3 = M 99 3 := by rw [hM1]; exact mu_ne _ _ (by first | decide | omega)
  have xM1_97_0 : M1 97 0 = 0 := by rw [hM1]; exact mu_at _ _ _ _
  have e100M1 : M1 100 = M 100 := by rw [hM1, mu_cell _ _ (by decide)]
  have e102M1 : M1 102 = M 102 := by rw [hM1, mu_cell _ _ (by decide)]
  have e103M1 : M1 103 = M 103 := by rw [hM1, mu_cell _ _ (by decide)]
  have e44M1 : M1 97 44 = M 97 44 := by rw [hM1, mu_ne _ _ (by first | decide | omega)]
  refine g_iload_n (pc' := 6) 1 dX10_back_5 rfl rfl ?_
  refine g_i2l (pc' := 7) ha dX10_back_6 rfl ?_
  refine g_lconst (pc' := 8) (v := 0) dX10_back_7 rfl (by decide) ?_
  refine g_lconst (pc' := 9) (v := 1) dX10_back_8 rfl (by decide) ?_
  refine g_callSip (pc' := 12) (As := [vl a, vl 0, vl 1]) (S := []) dX10_back_9 rfl m_X10_83 w_X10_in (c_X10_in X M1 a ⟨by omega, by omega⟩ 0 (by decide) 1 (by decide)) rfl (by decide) (by decide) rfl (Nat.le_of_ble_eq_true rfl) (fun z3 q2 => ?_)
  refine g_if_ne (pc' := 15) (tgt := 21) ⟨by omega, by omega⟩ dX10_back_12 rfl rfl (fun c4 => ?_) (fun c4 => ?_)
  · replace q2 := q2.resolve_right (fun h => c4 h.1)
    refine g_aload_n (pc' := 22) 0 dX10_back_21 rfl rfl ?_
    refine g_getR (pc' := 25) dX10_back_22 rfl f_X10_26 rfl rfl ?_
    refine g_iload_n (pc' := 26) 1 dX10_back_25 rfl rfl ?_
    refine g_zald (pc' := 27) dX10_back_26 rfl rfl (by omega) (by omega) (fun v5 ev5 rv5 => ?_)
    have nv5 : v5 = M 103 a.toNat := by rw [ev5, e103M1]
    have n0v5 : a = 0 → v5 = M 103 0 := fun z => by rw [nv5, z]; rfl
    have n1v5 : a = 1 → v5 = M 103 1 := fun z => by rw [nv5, z]; rfl
    refine g_if_ne (pc' := 30) (tgt := 37) rv5 dX10_back_27 rfl rfl (fun c6 => ?_) (fun c6 => ?_)
    · refine g_iconst (pc' := 38) dX10_back_37 rfl ?_
      refine g_istore_n (pc' := 39) (i := 2) (L' := [(2, vi 0), (0, vr X 97), (1, vi a)]) dX10_back_38 rfl rfl (by decide) rfl ?_
      refine g_sub [0, 1, 2] rfl ?_
      exact l_X10_back_39 X M hi a ha _ 0 M1 fM1 q100_0_M1 q100_1_M1 q100_2_M1 q100_3_M1 q100_49_M1 q100_50_M1 q100_51_M1 q100_52_M1 q103_0_M1 q103_1_M1 q97_12_M1 (by omega) (by omega) e100M1 e102M1 e103M1 e44M1 (by rw [← nv5]; assumption) (by omega) (fun j hj => by omega) rfl
    · refine g_aload_n (pc' := 31) 0 dX10_back_30 rfl rfl ?_
      refine g_bipush (pc' := 33) (v := (-2)) dX10_back_31 rfl (by decide) ?_
      refine g_callVi (pc' := 36) (As := [vi (-2)]) (b := 97) (S := []) dX10_back_33 rfl m_X10_87 w_X10_tell (c_X10_tell X M1 iM1 (-2) (by decide) (by omega)) rfl ⟨_, _, _, rfl, rfl, rfl⟩ (by decide) (by decide) rfl (Nat.le_of_ble_eq_true rfl) (fun z8 M9 q7 => ?_)
      obtain ⟨iM9, fM90, eM9_99_0, eM9_99_1, eM9_99_2, eM9_99_3, eM9_100_0, eM9_100_1, eM9_100_2, eM9_100_3, eM9_100_49, eM9_100_50, eM9_100_51, eM9_100_52, eM9_103_0, eM9_103_1, eM9_97_12, pM9⟩ := q7
      have fM9 : Fr (fun c => 97 ≤ c ∧ c ≤ 116) M M9 := Fr.tr fM1 fM90 fi_23
      have q100_0_M9 : id (M9 100 0 = M 100 0) := eM9_100_0.trans q100_0_M1
      have q100_1_M9 : id (M9 100 1 = M 100 1) := eM9_100_1.trans q100_1_M1
      have q100_2_M9 : id (M9 100 2 = M 100 2) := eM9_100_2.trans q100_2_M1
      have q100_3_M9 : id (M9 100 3 = M 100 3) := eM9_100_3.trans q100_3_M1
      have q100_49_M9 : id (M9 100 49 = M 100 49) := eM9_100_49.trans q100_49_M1
      have q100_50_M9 : id (M9 100 50 = M 100 50) := eM9_100_50.trans q100_50_M1
      have q100_51_M9 : id (M9 100 51 = M 100 51) := eM9_100_51.trans q100_51_M1
      have q100_52_M9 : id (M9 100 52 = M 100 52) := eM9_100_52.trans q100_52_M1
      have q103_0_M9 : id (M9 103 0 = M 103 0) := eM9_103_0.trans q103_0_M1
      have q103_1_M9 : id (M9 103 1 = M 103 1) := eM9_103_1.trans q103_1_M1
      have q97_12_M9 : (M9 97 12 = M 97 12) := eM9_97_12.trans q97_12_M1
      have q99_0_M9 : (M9 99 0 = M 99 0) := eM9_99_0.trans q99_0_M1
      have q99_1_M9 : (M9 99 1 = M 99 1) := eM9_99_1.trans q99_1_M1
      have q99_2_M9 : (M9 99 2 = M 99 2) := eM9_99_2.trans q99_2_M1
      have q99_3_M9 : (M9 99 3 = M 99 3) := eM9_99_3.trans q99_3_M1
      have wM9_99_0 : M9 99 0 = M1 99 0 := eM9_99_0
      have wM9_99_1 : M9 99 1 = M1 99 1 := eM9_99_1
      have wM9_99_2 : M9 99 2 = M1 99 2 := eM9_99_2
      have wM9_99_3 : M9 99 3 = M1 99 3 := eM9_99_3
      clear eM9_100_0 eM9_100_1 eM9_100_2 eM9_100_3 eM9_100_49 eM9_100_50 eM9_100_51 eM9_100_52 eM9_103_0 eM9_103_1
      refine g_ireturn dX10_back_36 ?_
      exact ⟨iM9, fM9, q100_0_M9, q100_1_M9, q100_2_M9, q100_3_M9, q100_49_M9, q100_50_M9, q100_51_M9, q100_52_M9, q103_0_M9, q103_1_M9, q97_12_M9, by omega⟩
  · replace q2 := q2.resolve_left (fun h => absurd (c4.symm.trans h.1) (by decide))
    refine g_aload_n (pc' := 16) 0 dX10_back_15 rfl rfl ?_
    refine g_iconst (pc' := 17) dX10_back_16 rfl ?_
    refine g_callVi (pc' := 20) (As := [vi (-1)]) (b := 97) (S := []) dX10_back_17 rfl m_X10_87 w_X10_tell (c_X10_tell X M1 iM1 (-1) (by decide) (by omega)) rfl ⟨_, _, _, rfl, rfl, rfl⟩ (by decide) (by decide) rfl (Nat.le_of_ble_eq_true rfl) (fun z11 M12 q10 => ?_)
    obtain ⟨iM12, fM120, eM12_99_0, eM12_99_1, eM12_99_2, eM12_99_3, eM12_100_0, eM12_100_1, eM12_100_2, eM12_100_3, eM12_100_49, eM12_100_50, eM12_100_51, eM12_100_52, eM12_103_0, eM12_103_1, eM12_97_12, pM12⟩ := q10
    have fM12 : Fr (fun c => 97 ≤ c ∧ c ≤ 116) M M12 := Fr.tr fM1 fM120 fi_23
    have q100_0_M12 : id (M12 100 0 = M 100 0) := eM12_100_0.trans q100_0_M1
    have q100_1_M12 : id (M12 100 1 = M 100 1) := eM12_100_1.trans q100_1_M1
    have q100_2_M12 : id (M12 100 2 = M 100 2) := eM12_100_2.trans q100_2_M1
    have q100_3_M12 : id (M12 100 3 = M 100 3) := eM12_100_3.trans q100_3_M1
    have q100_49_M12 : id (M12 100 49 = M 100 49) := eM12_100_49.trans q100_49_M1
    have q100_50_M12 : id (M12 100 50 = M 100 50) := eM12_100_50.trans q100_50_M1
    have q100_51_M12 : id (M12 100 51 = M 100 51) := eM12_100_51.trans q100_51_M1
    have q100_52_M12 : id (M12 100 52 = M 100 52) := eM12_100_52.trans q100_52_M1
    have q103_0_M12 : id (M12 103 0 = M 103 0) := eM12_103_0.trans q103_0_M1
    have q103_1_M12 : id (M12 103 1 = M 103 1) := eM12_103_1.trans q103_1_M1
    have q97_12_M12 : (M12 97 12 = M 97 12) := eM12_97_12.trans q97_12_M1
    have q99_0_M12 : (M12 99 0 = M 99 0) := eM12_99_0.trans q99_0_M1
    have q99_1_M12 : (M12 99 1 = M 99 1) := eM12_99_1.trans q99_1_M1
    have q99_2_M12 : (M12 99 2 = M 99 2) := eM12_99_2.trans q99_2_M1
    have q99_3_M12 : (M12 99 3 = M 99 3) := eM12_99_3.trans q99_3_M1
    have wM12_99_0 : M12 99 0 = M1 99 0 := eM12_99_0
    have wM12_99_1 : M12 99 1 = M1 99 1 := eM12_99_1
    have wM12_99_2 : M12 99 2 = M1 99 2 := eM12_99_2
    have wM12_99_3 : M12 99 3 = M1 99 3 := eM12_99_3
    clear eM12_100_0 eM12_100_1 eM12_100_2 eM12_100_3 eM12_100_49 eM12_100_50 eM12_100_51 eM12_100_52 eM12_103_0 eM12_103_1
    refine g_ireturn dX10_back_20 ?_
    exact ⟨iM12, fM12, q100_0_M12, q100_1_M12, q100_2_M12, q100_3_M12, q100_49_M12, q100_50_M12, q100_51_M12, q100_52_M12, q103_0_M12, q103_1_M12, q97_12_M12, by omega⟩
