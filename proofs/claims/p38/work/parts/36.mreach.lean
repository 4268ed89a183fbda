set_option maxHeartbeats 4000000 in
set_option maxRecDepth 100000 in
theorem l_X10_isWish_94 (X : Cx) (M : Mm) (hi : IM M) (hw : M 97 37 = -1 ∨ ((0 ≤ M 97 37 ∧ M 97 37 ≤ 5) ∧ 0 ≤ M 97 38 ∧ M 97 38 ≤ 3)) : ∀ (kk : Nat) (al : Int) (k : Int) (h0 : 0 ≤ al ∧ al ≤ 1) (h1 : 0 ≤ k) (h2 : k ≤ 6), (6 - k).toNat = kk → G X 2 RX10 cX10_isWish 5 (some .boolean) (Qi (fun r M1 => M1 = M ∧ (r = 0 ∨ r = 1))) 94 [(1, vi al), (2, vi k), (0, vr X 97)] [] M := by
  intro kk
  induction kk using Nat.strongRecOn with
  | ind kk ih =>
    intro al k h0 h1 h2 hmes
    refine g_iload_n (pc' := 95) 1 dX10_isWish_94 rfl rfl ?_
    refine g_aload_n (pc' := 96) 2 dX10_isWish_95 rfl rfl ?_
    refine g_getR (pc' := 99) dX10_isWish_96 rfl f_X10_13 rfl rfl ?_
    refine g_iconst (pc' := 100) dX10_isWish_99 rfl ?_
    refine g_iald (pc' := 101) dX10_isWish_100 rfl rfl (by decide) (by decide) (fun v1 ev1 rv1 => ?_)
    have ev1 : v1 = M 99 2 := ev1
    have bv1 : 0 ≤ v1 ∧ v1 ≤ 6 := by rw [ev1]; exact hi.1.2.2.1
    refine g_ic_ge (pc' := 104) (tgt := 156) ⟨by omega, by omega⟩ rv1 dX10_isWish_101 rfl rfl (fun c2 => ?_) (fun c2 => ?_)
    · refine g_iload_n (pc' := 157) 0 dX10_isWish_156 rfl rfl ?_
      refine g_zreturn dX10_isWish_157 (by omega) ?_
      exact ⟨rfl, by omega⟩
    · refine g_bipush (pc' := 106) (v := 13) dX10_isWish_104 rfl (by decide) ?_
      refine g_iconst (pc' := 107) dX10_isWish_106 rfl ?_
      refine g_iload_n (pc' := 108) 1 dX10_isWish_107 rfl rfl ?_
      refine g_imul (pc' := 109) dX10_isWish_108 rfl ?_
      refine g_iadd (pc' := 110) dX10_isWish_109 rfl ?_
      obtain ⟨x3, ex3⟩ : ∃ z : Int, z = 13 + (3 * k) := ⟨_, rfl⟩
      rw [← ex3]
      refine g_istore_n (pc' := 111) (i := 3) (L' := [(3, vi x3), (1, vi al), (2, vi k), (0, vr X 97)]) dX10_isWish_110 rfl rfl (by decide) rfl ?_
      refine g_iload_n (pc' := 112) 1 dX10_isWish_111 rfl rfl ?_
      refine g_if_eq (pc' := 115) (tgt := 148) ⟨by omega, by omega⟩ dX10_isWish_112 rfl rfl (fun c4 => ?_) (fun c4 => ?_)
      · refine g_iconst (pc' := 149) dX10_isWish_148 rfl ?_
        refine g_istore_n (pc' := 150) (i := 1) (L' := [(1, vi 0), (3, vi x3), (2, vi k), (0, vr X 97)]) dX10_isWish_149 rfl rfl (by decide) rfl ?_
        refine g_iinc (pc' := 153) (L' := [(2, vi (k + 1)), (1, vi 0), (3, vi x3), (0, vr X 97)]) 2 dX10_isWish_150 rfl rfl (by decide) rfl ?_
        refine g_goto (tgt := 94) dX10_isWish_153 rfl ?_
        refine g_sub [1, 0, 3] rfl ?_
        exact ih _ (by omega) 0 (k + 1) (by omega) (by omega) (by omega) rfl
      · refine g_aload_n (pc' := 116) 3 dX10_isWish_115 rfl rfl ?_
        refine g_aload_n (pc' := 117) 3 dX10_isWish_116 rfl rfl ?_
        refine g_getR (pc' := 120) dX10_isWish_117 rfl f_X10_13 rfl rfl ?_
        refine g_iload_n (pc' := 121) 0 dX10_isWish_120 rfl rfl ?_
        refine g_iald (pc' := 122) dX10_isWish_121 rfl rfl (by omega) (by omega) (fun v5 ev5 rv5 => ?_)
        have dv5 := hi.1.ta (i := x3) (by omega) (by omega)
        rw [← ev5] at dv5
        refine g_aload_n (pc' := 123) 3 dX10_isWish_122 rfl rfl ?_
        refine g_getR (pc' := 126) dX10_isWish_123 rfl f_X10_13 rfl rfl ?_
        refine g_iload_n (pc' := 127) 0 dX10_isWish_126 rfl rfl ?_
        refine g_iconst (pc' := 128) dX10_isWish_127 rfl ?_
        refine g_iadd (pc' := 129) dX10_isWish_128 rfl ?_
        refine g_iald (pc' := 130) dX10_isWish_129 rfl rfl (by omega) (by omega) (fun v6 ev6 rv6 => ?_)
        have dv6 := hi.1.ta (i := (x3 + 1)) (by omega) (by omega)
        rw [← ev6] at dv6
        refine g_callVip (pc' := 133) (As := [vi v5, vi v6]) (b := 97) (S := []) dX10_isWish_130 rfl m_X10_112 w_X10_tasteOf (c_X10_tasteOf X M hi v5 rv5 v6 rv6 (by omega) (by omega)) rfl ⟨_, _, _, rfl, rfl, rfl⟩ (by decide) (by decide) rfl (Nat.le_of_ble_eq_true rfl) (fun z8 q7 => ?_)
        refine g_aload_n (pc' := 134) 3 dX10_isWish_133 rfl rfl ?_
        refine g_getR (pc' := 137) dX10_isWish_134 rfl f_X10_13 rfl rfl ?_
        refine g_iload_n (pc' := 138) 0 dX10_isWish_137 rfl rfl ?_
        refine g_iconst (pc' := 139) dX10_isWish_138 rfl ?_
        refine g_iadd (pc' := 140) dX10_isWish_139 rfl ?_
        refine g_iald (pc' := 141) dX10_isWish_140 rfl rfl (by omega) (by omega) (fun v9 ev9 rv9 => ?_)
        have dv9 := hi.1.ta (i := (x3 + 2)) (by omega) (by omega)
        rw [← ev9] at dv9
        refine g_ic_ne (pc' := 144) (tgt := 148) ⟨by omega, by omega⟩ rv9 dX10_isWish_141 rfl rfl (fun c10 => ?_) (fun c10 => ?_)
        · refine g_iconst (pc' := 149) dX10_isWish_148 rfl ?_
          refine g_istore_n (pc' := 150) (i := 1) (L' := [(1, vi 0), (3, vi x3), (2, vi k), (0, vr X 97)]) dX10_isWish_149 rfl rfl (by decide) rfl ?_
          refine g_iinc (pc' := 153) (L' := [(2, vi (k + 1)), (1, vi 0), (3, vi x3), (0, vr X 97)]) 2 dX10_isWish_150 rfl rfl (by decide) rfl ?_
          refine g_goto (tgt := 94) dX10_isWish_153 rfl ?_
          refine g_sub [1, 0, 3] rfl ?_
          exact ih _ (by omega) 0 (k + 1) (by omega) (by omega) (by omega) rfl
        · refine g_iconst (pc' := 145) dX10_isWish_144 rfl ?_
          refine g_goto (tgt := 149) dX10_isWish_145 rfl ?_
          refine g_istore_n (pc' := 150) (i := 1) (L' := [(1, vi 1), (3, vi x3), (2, vi k), (0, vr X 97)]) dX10_isWish_149 rfl rfl (by decide) rfl ?_
          refine g_iinc (pc' := 153) (L' := [(2, vi (k + 1)), (1, vi 1), (3, vi x3), (0, vr X 97)]) 2 dX10_isWish_150 rfl rfl (by decide) rfl ?_
          refine g_goto (tgt := 94) dX10_isWish_153 rfl ?_
          refine g_sub [1, 0, 3] rfl ?_
          exact ih _ (by omega) 1 (k + 1) (by omega) (by omega) (by omega) rfl
set_option maxHeartbeats 4000000 in
set_option maxRecDepth 100000 in
theorem c_X10_isWish (X : Cx) (M : Mm) (hi : IM M) (hw : M 97 37 = -1 ∨ ((0 ≤ M 97 37 ∧ M 97 37 ≤ 5) ∧ 0 ≤ M 97 38 ∧ M 97 38 ≤ 3)) : Con X 2 yX10_isWish cX10_isWish 5 (some .boolean) [vr X 97] M (Qi (fun r M1 => M1 = M ∧ (r = 0 ∨ r = 1))) := by
  refine Con.ofG rfl (Nat.le_of_ble_eq_true rfl) ?_
  show G X 2 RX10 cX10_isWish 5 (some .boolean) (Qi (fun r M1 => M1 = M ∧ (r = 0 ∨ r = 1))) 0 [(0, vr X 97)] [] M
  refine g_aload_n (pc' := 1) 0 dX10_isWish_0 rfl rfl ?_
  refine g_getI (pc' := 4) dX10_isWish_1 rfl f_X10_345 rfl rfl (fun v1 ev1 rv1 => ?_)
  refine g_iconst (pc' := 5) dX10_isWish_4 rfl ?_
  refine g_ic_eq (pc' := 8) (tgt := 90) rv1 (by decide) dX10_isWish_5 rfl rfl (fun c2 => ?_) (fun c2 => ?_)
  · refine g_iconst (pc' := 91) dX10_isWish_90 rfl ?_
    refine g_istore_n (pc' := 92) (i := 1) (L' := [(1, vi 1), (0, vr X 97)]) dX10_isWish_91 rfl rfl (by decide) rfl ?_
    refine g_iconst (pc' := 93) dX10_isWish_92 rfl ?_
    refine g_istore_n (pc' := 94) (i := 2) (L' := [(2, vi 0), (1, vi 1), (0, vr X 97)]) dX10_isWish_93 rfl rfl (by decide) rfl ?_
    refine g_sub [1, 0, 2] rfl ?_
    exact l_X10_isWish_94 X M hi hw _ 1 0 (by omega) (by omega) (by omega) rfl
  · refine g_aload_n (pc' := 9) 0 dX10_isWish_8 rfl rfl ?_
    refine g_aload_n (pc' := 10) 0 dX10_isWish_9 rfl rfl ?_
    refine g_getI (pc' := 13) dX10_isWish_10 rfl f_X10_345 rfl rfl (fun v3 ev3 rv3 => ?_)
    obtain rfl : v1 = v3 := ev1.trans ev3.symm
    refine g_callVip (pc' := 16) (As := [vi v1]) (b := 97) (S := []) dX10_isWish_13 rfl m_X10_99 w_X10_full (c_X10_full X M hi v1 rv1 ⟨by omega, by omega⟩) rfl ⟨_, _, _, rfl, rfl, rfl⟩ (by decide) (by decide) rfl (Nat.le_of_ble_eq_true rfl) (fun z5 q4 => ?_)
    refine g_i2l (pc' := 17) ⟨by omega, by omega⟩ dX10_isWish_16 rfl ?_
    refine g_aload_n (pc' := 18) 0 dX10_isWish_17 rfl rfl ?_
    refine g_getR (pc' := 21) dX10_isWish_18 rfl f_X10_19 rfl rfl ?_
    refine g_bipush (pc' := 23) (v := 24) dX10_isWish_21 rfl (by decide) ?_
    refine g_lald (pc' := 24) dX10_isWish_23 rfl rfl (by decide) (by decide) (fun v6 ev6 rv6 => ?_)
    have ev6 : v6 = M 101 24 := ev6
    have bv6 : 1 ≤ v6 ∧ v6 ≤ 100000000000000 := by rw [ev6]; exact hi.2.1.1
    refine g_lmul (pc' := 25) dX10_isWish_24 rfl ?_
    refine g_nrmL (fun n7 rn7 en7 => ?_)
    refine g_lstore_n (pc' := 26) (i := 1) (L' := [(1, vl n7), (0, vr X 97)]) dX10_isWish_25 rfl rfl (by decide) rfl ?_
    refine g_ldc2 (pc' := 29) (v := 100) dX10_isWish_26 rfl k_X10_110 ?_
    refine g_aload_n (pc' := 30) 1 dX10_isWish_29 rfl rfl ?_
    refine g_getR (pc' := 33) dX10_isWish_30 rfl f_X10_19 rfl rfl ?_
    refine g_iconst (pc' := 34) dX10_isWish_33 rfl ?_
    refine g_aload_n (pc' := 35) 1 dX10_isWish_34 rfl rfl ?_
    refine g_getI (pc' := 38) dX10_isWish_35 rfl f_X10_345 rfl rfl (fun v8 ev8 rv8 => ?_)
    obtain rfl : v1 = v8 := ev1.trans ev8.symm
    refine g_imul (pc' := 39) dX10_isWish_38 rfl ?_
    refine g_aload_n (pc' := 40) 1 dX10_isWish_39 rfl rfl ?_
    refine g_getI (pc' := 43) dX10_isWish_40 rfl f_X10_348 rfl rfl (fun v9 ev9 rv9 => ?_)
    refine g_iadd (pc' := 44) dX10_isWish_43 rfl ?_
    refine g_lald (pc' := 45) dX10_isWish_44 rfl rfl (by omega) (by omega) (fun v10 ev10 rv10 => ?_)
    have bv10 : 0 ≤ v10 ∧ v10 ≤ 6000000000000000 := by rw [ev10]; exact PIw.le hi.2.1 (by omega)
    refine g_lmul (pc' := 46) dX10_isWish_45 rfl ?_
    refine g_nrmL (fun n11 rn11 en11 => ?_)
    refine g_aload_n (pc' := 47) 1 dX10_isWish_46 rfl rfl ?_
    refine g_getI (pc' := 50) dX10_isWish_47 rfl f_X10_351 rfl rfl (fun v12 ev12 rv12 => ?_)
    refine g_i2l (pc' := 51) rv12 dX10_isWish_50 rfl ?_
    refine g_lload_n (pc' := 52) 0 dX10_isWish_51 rfl rfl ?_
    refine g_lmul (pc' := 53) dX10_isWish_52 rfl ?_
    refine g_nrmL (fun n13 rn13 en13 => ?_)
    refine g_lsub (pc' := 54) dX10_isWish_53 rfl ?_
    refine g_nrmL (fun n14 rn14 en14 => ?_)
    refine g_lstore_n (pc' := 55) (i := 3) (L' := [(3, vl n14), (1, vl n7), (0, vr X 97)]) dX10_isWish_54 rfl rfl (by decide) rfl ?_
    refine g_lload_n (pc' := 56) 1 dX10_isWish_55 rfl rfl ?_
    refine g_lconst (pc' := 57) (v := 0) dX10_isWish_56 rfl (by decide) ?_
    refine g_lc_le (pc' := 61) (tgt := 88) rn7 (by decide) dX10_isWish_57 dX10_isWish_58 rfl rfl (fun c15 => ?_) (fun c15 => ?_)
    · refine g_iconst (pc' := 89) dX10_isWish_88 rfl ?_
      refine g_zreturn dX10_isWish_89 (by omega) ?_
      exact ⟨rfl, by omega⟩
    · refine g_lload_n (pc' := 62) 0 dX10_isWish_61 rfl rfl ?_
      refine g_lconst (pc' := 63) (v := 0) dX10_isWish_62 rfl (by decide) ?_
      refine g_lc_ge (pc' := 67) (tgt := 72) rn14 (by decide) dX10_isWish_63 dX10_isWish_64 rfl rfl (fun c16 => ?_) (fun c16 => ?_)
      · refine g_lload_n (pc' := 73) 0 dX10_isWish_72 rfl rfl ?_
        refine g_aload_n (pc' := 74) 2 dX10_isWish_73 rfl rfl ?_
        refine g_getI (pc' := 77) dX10_isWish_74 rfl f_X10_354 rfl rfl (fun v17 ev17 rv17 => ?_)
        refine g_i2l (pc' := 78) rv17 dX10_isWish_77 rfl ?_
        refine g_lload_n (pc' := 79) 1 dX10_isWish_78 rfl rfl ?_
        refine g_lmul (pc' := 80) dX10_isWish_79 rfl ?_
        refine g_nrmL (fun n18 rn18 en18 => ?_)
        refine g_lc_gt (pc' := 84) (tgt := 88) rn14 rn18 dX10_isWish_80 dX10_isWish_81 rfl rfl (fun c19 => ?_) (fun c19 => ?_)
        · refine g_iconst (pc' := 89) dX10_isWish_88 rfl ?_
          refine g_zreturn dX10_isWish_89 (by omega) ?_
          exact ⟨rfl, by omega⟩
        · refine g_iconst (pc' := 85) dX10_isWish_84 rfl ?_
          refine g_goto (tgt := 89) dX10_isWish_85 rfl ?_
          refine g_zreturn dX10_isWish_89 (by omega) ?_
          exact ⟨rfl, by omega⟩
      · refine g_lload_n (pc' := 68) 0 dX10_isWish_67 rfl rfl ?_
        refine g_lneg (pc' := 69) dX10_isWish_68 rfl ?_
        refine g_nrmL (fun n20 rn20 en20 => ?_)
        refine g_goto (tgt := 73) dX10_isWish_69 rfl ?_
        refine g_aload_n (pc' := 74) 2 dX10_isWish_73 rfl rfl ?_
        refine g_getI (pc' := 77) dX10_isWish_74 rfl f_X10_354 rfl rfl (fun v21 ev21 rv21 => ?_)
        refine g_i2l (pc' := 78) rv21 dX10_isWish_77 rfl ?_
        refine g_lload_n (pc' := 79) 1 dX10_isWish_78 rfl rfl ?_
        refine g_lmul (pc' := 80) dX10_isWish_79 rfl ?_
        refine g_nrmL (fun n22 rn22 en22 => ?_)
        refine g_lc_gt (pc' := 84) (tgt := 88) rn20 rn22 dX10_isWish_80 dX10_isWish_81 rfl rfl (fun c23 => ?_) (fun c23 => ?_)
        · refine g_iconst (pc' := 89) dX10_isWish_88 rfl ?_
          refine g_zreturn dX10_isWish_89 (by omega) ?_
          exact ⟨rfl, by omega⟩
        · refine g_iconst (pc' := 85) dX10_isWish_84 rfl ?_
          refine g_goto (tgt := 89) dX10_isWish_85 rfl ?_
          refine g_zreturn dX10_isWish_89 (by omega) ?_
          exact ⟨rfl, by omega⟩
set_option maxHeartbeats 4000000 in
set_option maxRecDepth 100000 in
theorem l_X10_keepFirst_2 (X : Cx) (M : Mm) (hi : IM M) (n : Int) (hn : inI n) (hn3 : 0 ≤ n ∧ n ≤ 3) : ∀ (kk : Nat) (k : Int) (M1 : Mm) (ic1 : IM M1) (fr1 : Fr (fun c => c = 97 ∨ c = 114) M M1) (q97_12 : (M1 97 12 = M 97 12)) (q97_37 : (M1 97 37 = M 97 37)) (q97_38 : (M1 97 38 = M 97 38)) (q97_17 : (M1 97 17 = M 97 17)) (q97_33 : (M1 97 33 = M 97 33)) (q97_10 : (M1 97 10 = M 97 10)) (q97_44 : (M1 97 44 = M 97 44)) (q97_1 : (M1 97 1 = M 97 1)) (h0 : 0 ≤ k) (h1 : k ≤ 3), (3 - k).toNat = kk → G X 0 RX10 cX10_keepFirst 3 none (Qv (fun M1 => IM M1 ∧ Fr (fun c => c = 97 ∨ c = 114) M M1 ∧ M1 97 12 = M 97 12 ∧ M1 97 37 = M 97 37 ∧ M1 97 38 = M 97 38 ∧ M1 97 17 = M 97 17 ∧ M1 97 33 = M 97 33 ∧ M1 97 10 = M 97 10 ∧ M1 97 44 = M 97 44 ∧ M1 97 1 = M 97 1)) 2 [(2, vi k), (0, vr X 97), (1, vi n)] [] M1 := by
  intro kk
  induction kk using Nat.strongRecOn with
  | ind kk ih =>
    intro k M1 ic1 fr1 q97_12 q97_37 q97_38 q97_17 q97_33 q97_10 q97_44 q97_1 h0 h1 hmes
    refine g_iload_n (pc' := 3) 0 dX10_keepFirst_2 rfl rfl ?_
    refine g_iload_n (pc' := 4) 2 dX10_keepFirst_3 rfl rfl ?_
    refine g_ic_ge (pc' := 7) (tgt := 32) ⟨by omega, by omega⟩ hn dX10_keepFirst_4 rfl rfl (fun c1 => ?_) (fun c1 => ?_)
    · refine g_aload_n (pc' := 33) 1 dX10_keepFirst_32 rfl rfl ?_
      refine g_dup (pc' := 34) dX10_keepFirst_33 rfl rfl ?_
      refine g_getI (pc' := 37) dX10_keepFirst_34 rfl f_X10_357 rfl rfl (fun v2 ev2 rv2 => ?_)
      refine g_iconst (pc' := 38) dX10_keepFirst_37 rfl ?_
      refine g_iadd (pc' := 39) dX10_keepFirst_38 rfl ?_
      refine g_nrmI (fun n3 rn3 en3 => ?_)
      have bn3 : (-2147483648 ≤ v2 + 1 ∧ v2 + 1 ≤ 2147483647) → n3 = v2 + 1 := fun h => en3.trans (bm32 h)
      refine g_putI (pc' := 42) dX10_keepFirst_39 rfl p_X10_357 rfl rfl rn3 (fun M4 hM4 => ?_)
      have iM4 : IM M4 := IM.wr ic1 hM4 (by unfold okv; first | decide | omega)
      have fM4 : Fr (fun c => c = 97 ∨ c = 114) M M4 := Fr.wr fr1 hM4 (by first | decide | omega | (dsimp only; omega))
      have q97_12_M4 : (M4 97 12 = M 97 12) := (show M4 97 12 = M1 97 12 by rw [hM4]; exact mu_ne _ _ (by first | decide | omega)).trans q97_12
      have q97_37_M4 : (M4 97 37 = M 97 37) := (show M4 97 37 = M1 97 37 by rw [hM4]; exact mu_ne _ _ (by first | decide | omega)).trans q97_37
      have q97_38_M4 : (M4 97 38 = M 97 38) := (show M4 97 38 = M1 97 38 by rw [hM4]; exact mu_ne _ _ (by first | decide | omega)).trans q97_38
      have q97_17_M4 : (M4 97 17 = M 97 17) := (show M4 97 17 = M1 97 17 by rw [hM4]; exact mu_ne _ _ (by first | decide | omega)).trans q97_17
      have q97_33_M4 : (M4 97 33 = M 97 33) := (show M4 97 33 = M1 97 33 by rw [hM4]; exact mu_ne _ _ (by first | decide | omega)).trans q97_33
      have q97_10_M4 : (M4 97 10 = M 97 10) := (show M4 97 10 = M1 97 10 by rw [hM4]; exact mu_ne _ _ (by first | decide | omega)).trans q97_10
      have q97_44_M4 : (M4 97 44 = M 97 44) := (show M4 97 44 = M1 97 44 by rw [hM4]; exact mu_ne _ _ (by first | decide | omega)).trans q97_44
      have q97_1_M4 : (M4 97 1 = M 97 1) := (show M4 97 1 = M1 97 1 by rw [hM4]; exact mu_ne _ _ (by first | decide | omega)).trans q97_1
      have xM4_97_36 : M4 97 36 = n3 := by rw [hM4]; exact mu_at _ _ _ _
      refine g_vreturn dX10_keepFirst_42 ?_
      exact ⟨iM4, fM4, q97_12_M4, q97_37_M4, q97_38_M4, q97_17_M4, q97_33_M4, q97_10_M4, q97_44_M4, q97_1_M4⟩
    · refine g_aload_n (pc' := 8) 1 dX10_keepFirst_7 rfl rfl ?_
      refine g_getI (pc' := 11) dX10_keepFirst_8 rfl f_X10_357 rfl rfl (fun v5 ev5 rv5 => ?_)
      refine g_if_ne (pc' := 14) (tgt := 32) rv5 dX10_keepFirst_11 rfl rfl (fun c6 => ?_) (fun c6 => ?_)
      · refine g_aload_n (pc' := 33) 1 dX10_keepFirst_32 rfl rfl ?_
        refine g_dup (pc' := 34) dX10_keepFirst_33 rfl rfl ?_
        refine g_getI (pc' := 37) dX10_keepFirst_34 rfl f_X10_357 rfl rfl (fun v7 ev7 rv7 => ?_)
        obtain rfl : v5 = v7 := ev5.trans ev7.symm
        refine g_iconst (pc' := 38) dX10_keepFirst_37 rfl ?_
        refine g_iadd (pc' := 39) dX10_keepFirst_38 rfl ?_
        refine g_nrmI (fun n8 rn8 en8 => ?_)
        have bn8 : (-2147483648 ≤ v5 + 1 ∧ v5 + 1 ≤ 2147483647) → n8 = v5 + 1 := fun h => en8.trans (bm32 h)
        refine g_putI (pc' := 42) dX10_keepFirst_39 rfl p_X10_357 rfl rfl rn8 (fun M9 hM9 => ?_)
        have iM9 : IM M9 := IM.wr ic1 hM9 (by unfold okv; first | decide | omega)
        have fM9 : Fr (fun c => c = 97 ∨ c = 114) M M9 := Fr.wr fr1 hM9 (by first | decide | omega | (dsimp only; omega))
        have q97_12_M9 : (M9 97 12 = M 97 12) := (show M9 97 12 = M1 97 12 by rw [hM9]; exact mu_ne _ _ (by first | decide | omega)).trans q97_12
        have q97_37_M9 : (M9 97 37 = M 97 37) := (show M9 97 37 = M1 97 37 by rw [hM9]; exact mu_ne _ _ (by first | decide | omega)).trans q97_37
        have q97_38_M9 : (M9 97 38 = M 97 38) := (show M9 97 38 = M1 97 38 by rw [hM9]; exact mu_ne _ _ (by first | decide | omega)).trans q97_38
        have q97_17_M9 : (M9 97 17 = M 97 17) := (show M9 97 17 = M1 97 17 by rw [hM9]; exact mu_ne _ _ (by first | decide | omega)).trans q97_17
        have q97_33_M9 : (M9 97 33 = M 97 33) := (show M9 97 33 = M1 97 33 by rw [hM9]; exact mu_ne _ _ (by first | decide | omega)).trans q97_33
        have q97_10_M9 : (M9 97 10 = M 97 10) := (show M9 97 10 = M1 97 10 by rw [hM9]; exact mu_ne _ _ (by first | decide | omega)).trans q97_10
        have q97_44_M9 : (M9 97 44 = M 97 44) := (show M9 97 44 = M1 97 44 by rw [hM9]; exact mu_ne _ _ (by first | decide | omega)).trans q97_44
        have q97_1_M9 : (M9 97 1 = M 97 1) := (show M9 97 1 = M1 97 1 by rw [hM9]; exact mu_ne _ _ (by first | decide | omega)).trans q97_1
        have xM9_97_36 : M9 97 36 = n8 := by rw [hM9]; exact mu_at _ _ _ _
        refine g_vreturn dX10_keepFirst_42 ?_
        exact ⟨iM9, fM9, q97_12_M9, q97_37_M9, q97_38_M9, q97_17_M9, q97_33_M9, q97_10_M9, q97_44_M9, q97_1_M9⟩
      · refine g_aload_n (pc' := 15) 1 dX10_keepFirst_14 rfl rfl ?_
        refine g_getR (pc' := 18) dX10_keepFirst_15 rfl f_X10_67 rfl rfl ?_
        refine g_iload_n (pc' := 19) 0 dX10_keepFirst_18 rfl rfl ?_
        refine g_aload_n (pc' := 20) 1 dX10_keepFirst_19 rfl rfl ?_
        refine g_getR (pc' := 23) dX10_keepFirst_20 rfl f_X10_64 rfl rfl ?_
        refine g_iload_n (pc' := 24) 0 dX10_keepFirst_23 rfl rfl ?_
        refine g_iald (pc' := 25) dX10_keepFirst_24 rfl rfl (by omega) (by omega) (fun v10 ev10 rv10 => ?_)
        refine g_iast (pc' := 26) dX10_keepFirst_25 rfl rfl (by omega) (by omega) rv10 (fun M11 hM11 => ?_)
        have iM11 : IM M11 := IM.wr ic1 hM11 (by unfold okv; first | decide | omega)
        have fM11 : Fr (fun c => c = 97 ∨ c = 114) M M11 := Fr.wr fr1 hM11 (by first | decide | omega | (dsimp only; omega))
        have q97_12_M11 : (M11 97 12 = M 97 12) := (show M11 97 12 = M1 97 12 by rw [hM11]; exact mu_ne _ _ (by first | decide | omega)).trans q97_12
        have q97_37_M11 : (M11 97 37 = M 97 37) := (show M11 97 37 = M1 97 37 by rw [hM11]; exact mu_ne _ _ (by first | decide | omega)).trans q97_37
        have q97_38_M11 : (M11 97 38 = M 97 38) := (show M11 97 38 = M1 97 38 by rw [hM11]; exact mu_ne _ _ (by first | decide | omega)).trans q97_38
        have q97_17_M11 : (M11 97 17 = M 97 17) := (show M11 97 17 = M1 97 17 by rw [hM11]; exact mu_ne _ _ (by first | decide | omega)).trans q97_17
        have q97_33_M11 : (M11 97 33 = M 97 33) := (show M11 97 33 = M1 97 33 by rw [hM11]; exact mu_ne _ _ (by first | decide | omega)).trans q97_33
        have q97_10_M11 : (M11 97 10 = M 97 10) := (show M11 97 10 = M1 97 10 by rw [hM11]; exact mu_ne _ _ (by first | decide | omega)).trans q97_10
        have q97_44_M11 : (M11 97 44 = M 97 44) := (show M11 97 44 = M1 97 44 by rw [hM11]; exact mu_ne _ _ (by first | decide | omega)).trans q97_44
        have q97_1_M11 : (M11 97 1 = M 97 1) := (show M11 97 1 = M1 97 1 by rw [hM11]; exact mu_ne _ _ (by first | decide | omega)).trans q97_1
        refine g_iinc (pc' := 29) (L' := [(2, vi (k + 1)), (0, vr X 97), (1, vi n)]) 0 dX10_keepFirst_26 rfl rfl (by decide) rfl ?_
        refine g_goto (tgt := 2) dX10_keepFirst_29 rfl ?_
        refine g_sub [0, 1, 2] rfl ?_
        exact ih _ (by omega) (k + 1) M11 iM11 fM11 q97_12_M11 q97_37_M11 q97_38_M11 q97_17_M11 q97_33_M11 q97_10_M11 q97_44_M11 q97_1_M11 (by omega) (by omega) rfl
set_option maxHeartbeats 4000000 in
set_option maxRecDepth 100000 in
theorem c_X10_keepFirst (X : Cx) (M : Mm) (hi : IM M) (n : Int) (hn : inI n) (hn3 : 0 ≤ n ∧ n ≤ 3) : Con X 0 yX10_keepFirst cX10_keepFirst 3 none [vr X 97, vi n] M (Qv (fun M1 => IM M1 ∧ Fr (fun c => c = 97 ∨ c = 114) M M1 ∧ M1 97 12 = M 97 12 ∧ M1 97 37 = M 97 37 ∧ M1 97 38 = M 97 38 ∧ M1 97 17 = M 97 17 ∧ M1 97 33 = M 97 33 ∧ M1 97 10 = M 97 10 ∧ M1 97 44 = M 97 44 ∧ M1 97 1 = M 97 1)) := by
  refine Con.ofG rfl (Nat.le_of_ble_eq_true rfl) ?_
  show G X 0 RX10 cX10_keepFirst 3 none (Qv (fun M1 => IM M1 ∧ Fr (fun c => c = 97 ∨ c = 114) M M1 ∧ M1 97 12 = M 97 12 ∧ M1 97 37 = M 97 37 ∧ M1 97 38 = M 97 38 ∧ M1 97 17 = M 97 17 ∧ M1 97 33 = M 97 33 ∧ M1 97 10 = M 97 10 ∧ M1 97 44 = M 97 44 ∧ M1 97 1 = M 97 1)) 0 [(0, vr X 97), (1, vi n)] [] M
  refine g_iconst (pc' := 1) dX10_keepFirst_0 rfl ?_
  refine g_istore_n (pc' := 2) (i := 2) (L' := [(2, vi 0), (0, vr X 97), (1, vi n)]) dX10_keepFirst_1 rfl rfl (by decide) rfl ?_
  refine g_sub [0, 1, 2] rfl ?_
  exact l_X10_keepFirst_2 X M hi n hn hn3 _ 0 M hi Fr.rf rfl rfl rfl rfl rfl rfl rfl rfl (by omega) (by omega) rfl
set_option maxHeartbeats 4000000 in
set_option maxRecDepth 100000 in
theorem c_X10_goes (X : Cx) (M : Mm) (hi : IM M) (a : Int) (ha : inI a) (hc : 0 ≤ a ∧ a < 9 * M 99 1) : Con X 4 yX10_goes cX10_goes 4 (some .boolean) [vr X 97, vi a] M (Qi (fun r M1 => IM M1 ∧ Fr (fun c => c = 101 ∨ c = 104 ∨ c = 105) M M1 ∧ ((r = 0 ∨ r = 1) ∧ (∀ q : Nat, 25 ≤ q → M1 104 q = M 104 q)))) := by
  refine Con.ofG rfl (Nat.le_of_ble_eq_true rfl) ?_
  show G X 4 RX10 cX10_goes 4 (some .boolean) (Qi (fun r M1 => IM M1 ∧ Fr (fun c => c = 101 ∨ c = 104 ∨ c = 105) M M1 ∧ ((r = 0 ∨ r = 1) ∧ (∀ q : Nat, 25 ≤ q → M1 104 q = M 104 q)))) 0 [(0, vr X 97), (1, vi a)] [] M
  have p1 := hi.1.2.1
  have p0 := hi.1.1
  refine g_iload_n (pc' := 1) 1 dX10_goes_0 rfl rfl ?_
  refine g_bipush (pc' := 3) (v := 9) dX10_goes_1 rfl (by decide) ?_
  refine g_iremP (pc' := 4) ha (by decide) (by omega) (by omega) dX10_goes_3 rfl ?_
  refine g_iconst (pc' := 5) dX10_goes_4 rfl ?_
  refine g_idivP (pc' := 6) ⟨by omega, by omega⟩ (by decide) (by omega) (by omega) dX10_goes_5 rfl ?_
  obtain ⟨x1, ex1⟩ : ∃ z : Int, z = (a % 9) / 3 := ⟨_, rfl⟩
  rw [← ex1]
  refine g_istore_n (pc' := 7) (i := 2) (L' := [(2, vi x1), (0, vr X 97), (1, vi a)]) dX10_goes_6 rfl rfl (by decide) rfl ?_
  refine g_iload_n (pc' := 8) 2 dX10_goes_7 rfl rfl ?_
  refine g_iconst (pc' := 9) dX10_goes_8 rfl ?_
  refine g_iremP (pc' := 10) ha (by decide) (by omega) (by omega) dX10_goes_9 rfl ?_
  obtain ⟨x2, ex2⟩ : ∃ z : Int, z = a % 3 := ⟨_, rfl⟩
  rw [← ex2]
  refine g_istore_n (pc' := 11) (i := 3) (L' := [(3, vi x2), (2, vi x1), (0, vr X 97), (1, vi a)]) dX10_goes_10 rfl rfl (by decide) rfl ?_
  refine g_aload_n (pc' := 12) 2 dX10_goes_11 rfl rfl ?_
  refine g_iload_n (pc' := 13) 1 dX10_goes_12 rfl rfl ?_
  refine g_callVip (pc' := 16) (As := [vi x1]) (b := 97) (S := []) dX10_goes_13 rfl m_X10_102 w_X10_isGlass (c_X10_isGlass X M hi x1 ⟨by omega, by omega⟩) rfl ⟨_, _, _, rfl, rfl, rfl⟩ (by decide) (by decide) rfl (Nat.le_of_ble_eq_true rfl) (fun z4 q3 => ?_)
  refine g_if_eq (pc' := 19) (tgt := 52) ⟨by omega, by omega⟩ dX10_goes_16 rfl rfl (fun c5 => ?_) (fun c5 => ?_)
  · replace q3 := q3.resolve_left (fun h => absurd (c5.symm.trans h.1) (by decide))
    refine g_iconst (pc' := 53) dX10_goes_52 rfl ?_
    refine g_zreturn dX10_goes_53 (by omega) ?_
    exact ⟨hi, Fr.rf, by omega, fun _ _ => rfl⟩
  · replace q3 := q3.resolve_right (fun h => c5 h.1)
    refine g_aload_n (pc' := 20) 2 dX10_goes_19 rfl rfl ?_
    refine g_iload_n (pc' := 21) 0 dX10_goes_20 rfl rfl ?_
    refine g_callVip (pc' := 24) (As := [vi x2]) (b := 97) (S := []) dX10_goes_21 rfl m_X10_102 w_X10_isGlass (c_X10_isGlass X M hi x2 ⟨by omega, by omega⟩) rfl ⟨_, _, _, rfl, rfl, rfl⟩ (by decide) (by decide) rfl (Nat.le_of_ble_eq_true rfl) (fun z7 q6 => ?_)
    refine g_if_eq (pc' := 27) (tgt := 52) ⟨by omega, by omega⟩ dX10_goes_24 rfl rfl (fun c8 => ?_) (fun c8 => ?_)
    · replace q6 := q6.resolve_left (fun h => absurd (c8.symm.trans h.1) (by decide))
      refine g_iconst (pc' := 53) dX10_goes_52 rfl ?_
      refine g_zreturn dX10_goes_53 (by omega) ?_
      exact ⟨hi, Fr.rf, by omega, fun _ _ => rfl⟩
    · replace q6 := q6.resolve_right (fun h => c8 h.1)
      refine g_aload_n (pc' := 28) 2 dX10_goes_27 rfl rfl ?_
      refine g_iload_n (pc' := 29) 1 dX10_goes_28 rfl rfl ?_
      refine g_iload_n (pc' := 30) 0 dX10_goes_29 rfl rfl ?_
      refine g_aload_n (pc' := 31) 2 dX10_goes_30 rfl rfl ?_
      refine g_getR (pc' := 34) dX10_goes_31 rfl f_X10_13 rfl rfl ?_
      refine g_bipush (pc' := 36) (v := 10) dX10_goes_34 rfl (by decide) ?_
      refine g_iload_n (pc' := 37) 3 dX10_goes_36 rfl rfl ?_
      refine g_bipush (pc' := 39) (v := 9) dX10_goes_37 rfl (by decide) ?_
      refine g_idivP (pc' := 40) ha (by decide) (by omega) (by omega) dX10_goes_39 rfl ?_
      refine g_iadd (pc' := 41) dX10_goes_40 rfl ?_
      refine g_iald (pc' := 42) dX10_goes_41 rfl rfl (by omega) (by omega) (fun v9 ev9 rv9 => ?_)
      have dv9 : 1 ≤ v9 ∧ v9 ≤ 60 := by rw [ev9]; exact hi.1.sp (by omega) (by omega)
      refine g_callVi (pc' := 45) (As := [vi x1, vi x2, vi v9]) (b := 97) (S := []) dX10_goes_42 rfl m_X10_139 w_X10_spooned (c_X10_spooned X M hi x1 ⟨by omega, by omega⟩ x2 ⟨by omega, by omega⟩ v9 rv9 (by omega) (by omega) (by omega)) rfl ⟨_, _, _, rfl, rfl, rfl⟩ (by decide) (by decide) rfl (Nat.le_of_ble_eq_true rfl) (fun z11 M12 q10 => ?_)
      obtain ⟨iM12, fM120, pM12⟩ := q10
      have fM12 : Fr (fun c => c = 101 ∨ c = 104 ∨ c = 105) M M12 := Fr.tr Fr.rf fM120 (fun _ z => z)
      refine g_if_ne (pc' := 48) (tgt := 52) ⟨by omega, by omega⟩ dX10_goes_45 rfl rfl (fun c13 => ?_) (fun c13 => ?_)
      · refine g_iconst (pc' := 53) dX10_goes_52 rfl ?_
        refine g_zreturn dX10_goes_53 (by omega) ?_
        exact ⟨iM12, fM12, by omega, pM12.2⟩
      · refine g_iconst (pc' := 49) dX10_goes_48 rfl ?_
        refine g_goto (tgt := 53) dX10_goes_49 rfl ?_
        refine g_zreturn dX10_goes_53 (by omega) ?_
        exact ⟨iM12, fM12, by omega, pM12.2⟩
set_option maxHeartbeats 4000000 in
set_option maxRecDepth 100000 in
theorem c_X10_ofMove (X : Cx) (M : Mm) (hi : IM M) (i : Int) (hi : inI i) (w : Int) (hw : inI w) (hi3 : 0 ≤ i ∧ i ≤ 2) : Con X 0 yX10_ofMove cX10_ofMove 3 (some .int) [vr X 97, vi i, vi w] M (Qi (fun r M1 => M1 = M ∧ (inI r))) := by
  refine Con.ofG rfl (Nat.le_of_ble_eq_true rfl) ?_
  show G X 0 RX10 cX10_ofMove 3 (some .int) (Qi (fun r M1 => M1 = M ∧ (inI r))) 0 [(0, vr X 97), (1, vi i), (2, vi w)] [] M
  refine g_iload_n (pc' := 1) 2 dX10_ofMove_0 rfl rfl ?_
  refine g_if_ne (pc' := 4) (tgt := 16) hw dX10_ofMove_1 rfl rfl (fun c1 => ?_) (fun c1 => ?_)
  · refine g_iload_n (pc' := 17) 2 dX10_ofMove_16 rfl rfl ?_
    refine g_iconst (pc' := 18) dX10_ofMove_17 rfl ?_
    refine g_ic_ne (pc' := 21) (tgt := 35) hw (by decide) dX10_ofMove_18 rfl rfl (fun c2 => ?_) (fun c2 => ?_)
    · refine g_aload_n (pc' := 36) 0 dX10_ofMove_35 rfl rfl ?_
      refine g_getR (pc' := 39) dX10_ofMove_36 rfl f_X10_67 rfl rfl ?_
      refine g_iload_n (pc' := 40) 1 dX10_ofMove_39 rfl rfl ?_
      refine g_iald (pc' := 41) dX10_ofMove_40 rfl rfl (by omega) (by omega) (fun v3 ev3 rv3 => ?_)
      refine g_iconst (pc' := 42) dX10_ofMove_41 rfl ?_
      refine g_irem (pc' := 43) rv3 (by decide) (by omega) dX10_ofMove_42 rfl ?_
      refine g_nrmI (fun n4 rn4 en4 => ?_)
      have bn4 : (-2147483648 ≤ v3.tmod 3 ∧ v3.tmod 3 ≤ 2147483647) → n4 = v3.tmod 3 := fun h => en4.trans (bm32 h)
      refine g_ireturn dX10_ofMove_43 ?_
      exact ⟨rfl, by first | assumption | decide | omega⟩
    · refine g_aload_n (pc' := 22) 0 dX10_ofMove_21 rfl rfl ?_
      refine g_getR (pc' := 25) dX10_ofMove_22 rfl f_X10_67 rfl rfl ?_
      refine g_iload_n (pc' := 26) 1 dX10_ofMove_25 rfl rfl ?_
      refine g_iald (pc' := 27) dX10_ofMove_26 rfl rfl (by omega) (by omega) (fun v5 ev5 rv5 => ?_)
      refine g_bipush (pc' := 29) (v := 9) dX10_ofMove_27 rfl (by decide) ?_
      refine g_irem (pc' := 30) rv5 (by decide) (by omega) dX10_ofMove_29 rfl ?_
      refine g_nrmI (fun n6 rn6 en6 => ?_)
      have bn6 : (-2147483648 ≤ v5.tmod 9 ∧ v5.tmod 9 ≤ 2147483647) → n6 = v5.tmod 9 := fun h => en6.trans (bm32 h)
      refine g_iconst (pc' := 31) dX10_ofMove_30 rfl ?_
      refine g_idiv (pc' := 32) rn6 (by decide) (by omega) dX10_ofMove_31 rfl ?_
      refine g_nrmI (fun n7 rn7 en7 => ?_)
      have bn7 : (-2147483648 ≤ n6.tdiv 3 ∧ n6.tdiv 3 ≤ 2147483647) → n7 = n6.tdiv 3 := fun h => en7.trans (bm32 h)
      refine g_goto (tgt := 43) dX10_ofMove_32 rfl ?_
      refine g_ireturn dX10_ofMove_43 ?_
      exact ⟨rfl, by first | assumption | decide | omega⟩
  · refine g_aload_n (pc' := 5) 0 dX10_ofMove_4 rfl rfl ?_
    refine g_getR (pc' := 8) dX10_ofMove_5 rfl f_X10_67 rfl rfl ?_
    refine g_iload_n (pc' := 9) 1 dX10_ofMove_8 rfl rfl ?_
    refine g_iald (pc' := 10) dX10_ofMove_9 rfl rfl (by omega) (by omega) (fun v8 ev8 rv8 => ?_)
    refine g_bipush (pc' := 12) (v := 9) dX10_ofMove_10 rfl (by decide) ?_
    refine g_idiv (pc' := 13) rv8 (by decide) (by omega) dX10_ofMove_12 rfl ?_
    refine g_nrmI (fun n9 rn9 en9 => ?_)
    have bn9 : (-2147483648 ≤ v8.tdiv 9 ∧ v8.tdiv 9 ≤ 2147483647) → n9 = v8.tdiv 9 := fun h => en9.trans (bm32 h)
    refine g_goto (tgt := 43) dX10_ofMove_13 rfl ?_
    refine g_ireturn dX10_ofMove_43 ?_
    exact ⟨rfl, by first | assumption | decide | omega⟩
