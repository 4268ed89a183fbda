set_option maxHeartbeats 4000000 in
set_option maxRecDepth 100000 in
theorem c_X9_putTriple (X : Cx) (M : Mm) (hi : IC M) (a n : Nat) (ha : shp[a]? = some (1, n, [])) (hfa : free a) (k : Int) (hk : inI k) (x : Int) (hx : inI x) (y : Int) (hy : inI y) (z : Int) (hz : inI z) (hkn : 0 ≤ k ∧ 3 * k + 2 < n) : Con X 0 yX9_putTriple cX9_putTriple 5 none [vr X a, vi k, vi x, vi y, vi z] M (Qv (fun M1 => IC M1 ∧ Fr (fun c => c = a) M M1)) := by
  refine Con.ofG rfl (Nat.le_of_ble_eq_true rfl) ?_
  show G X 0 RX9 cX9_putTriple 5 none (Qv (fun M1 => IC M1 ∧ Fr (fun c => c = a) M M1)) 0 [(0, vr X a), (1, vi k), (2, vi x), (3, vi y), (4, vi z)] [] M
  refine g_aload_n (pc' := 1) 0 dX9_putTriple_0 rfl rfl ?_
  refine g_iconst (pc' := 2) dX9_putTriple_1 rfl ?_
  refine g_iload_n (pc' := 3) 1 dX9_putTriple_2 rfl rfl ?_
  refine g_imul (pc' := 4) dX9_putTriple_3 rfl ?_
  refine g_iload_n (pc' := 5) 2 dX9_putTriple_4 rfl rfl ?_
  refine g_iast (pc' := 6) dX9_putTriple_5 rfl ha (by omega) (by omega) hx (fun M1 hM1 => ?_)
  have fM1 : Fr (fun c => c = a) M M1 := Fr.wr Fr.rf hM1 rfl
  refine g_aload_n (pc' := 7) 0 dX9_putTriple_6 rfl rfl ?_
  refine g_iconst (pc' := 8) dX9_putTriple_7 rfl ?_
  refine g_iload_n (pc' := 9) 1 dX9_putTriple_8 rfl rfl ?_
  refine g_imul (pc' := 10) dX9_putTriple_9 rfl ?_
  refine g_iconst (pc' := 11) dX9_putTriple_10 rfl ?_
  refine g_iadd (pc' := 12) dX9_putTriple_11 rfl ?_
  refine g_iload_n (pc' := 13) 3 dX9_putTriple_12 rfl rfl ?_
  refine g_iast (pc' := 14) dX9_putTriple_13 rfl ha (by omega) (by omega) hy (fun M2 hM2 => ?_)
  have fM2 : Fr (fun c => c = a) M M2 := Fr.wr fM1 hM2 rfl
  refine g_aload_n (pc' := 15) 0 dX9_putTriple_14 rfl rfl ?_
  refine g_iconst (pc' := 16) dX9_putTriple_15 rfl ?_
  refine g_iload_n (pc' := 17) 1 dX9_putTriple_16 rfl rfl ?_
  refine g_imul (pc' := 18) dX9_putTriple_17 rfl ?_
  refine g_iconst (pc' := 19) dX9_putTriple_18 rfl ?_
  refine g_iadd (pc' := 20) dX9_putTriple_19 rfl ?_
  refine g_iload (pc' := 22) 4 dX9_putTriple_20 rfl rfl ?_
  refine g_iast (pc' := 23) dX9_putTriple_22 rfl ha (by omega) (by omega) hz (fun M3 hM3 => ?_)
  have fM3 : Fr (fun c => c = a) M M3 := Fr.wr fM2 hM3 rfl
  refine g_vreturn dX9_putTriple_23 ?_
  exact ⟨hi.fr fM3 (fun c hc => hc ▸ hfa), fM3⟩
set_option maxHeartbeats 4000000 in
set_option maxRecDepth 100000 in
theorem c_X5_ofFirst (X : Cx) (M : Mm) (hi : IC M) (m : Int) (hm : inI m) (i : Int) (hi : inI i) (w : Int) (hw : inI w) : Con X 1 yX5_ofFirst cX5_ofFirst 4 (some .int) [vr X 60, vi m, vi i, vi w] M (Qi (fun r M1 => M1 = M ∧ (inI r))) := by
  refine Con.ofG rfl (Nat.le_of_ble_eq_true rfl) ?_
  show G X 1 RX5 cX5_ofFirst 4 (some .int) (Qi (fun r M1 => M1 = M ∧ (inI r))) 0 [(0, vr X 60), (1, vi m), (2, vi i), (3, vi w)] [] M
  refine g_iload_n (pc' := 1) 2 dX5_ofFirst_0 rfl rfl ?_
  refine g_if_lt (pc' := 4) (tgt := 23) hi dX5_ofFirst_1 rfl rfl (fun c1 => ?_) (fun c1 => ?_)
  · refine g_iconst (pc' := 24) dX5_ofFirst_23 rfl ?_
    refine g_ireturn dX5_ofFirst_24 ?_
    exact ⟨rfl, by first | assumption | decide⟩
  · refine g_iload_n (pc' := 5) 2 dX5_ofFirst_4 rfl rfl ?_
    refine g_iload_n (pc' := 6) 1 dX5_ofFirst_5 rfl rfl ?_
    refine g_ic_ge (pc' := 9) (tgt := 23) hi hm dX5_ofFirst_6 rfl rfl (fun c2 => ?_) (fun c2 => ?_)
    · refine g_iconst (pc' := 24) dX5_ofFirst_23 rfl ?_
      refine g_ireturn dX5_ofFirst_24 ?_
      exact ⟨rfl, by first | assumption | decide⟩
    · refine g_iload_n (pc' := 10) 2 dX5_ofFirst_9 rfl rfl ?_
      refine g_iconst (pc' := 11) dX5_ofFirst_10 rfl ?_
      refine g_ic_ge (pc' := 14) (tgt := 23) hi (by decide) dX5_ofFirst_11 rfl rfl (fun c3 => ?_) (fun c3 => ?_)
      · refine g_iconst (pc' := 24) dX5_ofFirst_23 rfl ?_
        refine g_ireturn dX5_ofFirst_24 ?_
        exact ⟨rfl, by first | assumption | decide⟩
      · refine g_iload_n (pc' := 15) 3 dX5_ofFirst_14 rfl rfl ?_
        refine g_iconst (pc' := 16) dX5_ofFirst_15 rfl ?_
        refine g_iconst (pc' := 17) dX5_ofFirst_16 rfl ?_
        refine g_callSip (pc' := 20) (As := [vi w, vi 0, vi 2]) (S := []) dX5_ofFirst_17 rfl m_X5_59 w_X9_isWithin (c_X9_isWithin X M w hw 0 (by decide) 2 (by decide)) rfl (by decide) (by decide) rfl (Nat.le_of_ble_eq_true rfl) (fun z5 q4 => ?_)
        refine g_if_ne (pc' := 23) (tgt := 25) ⟨by omega, by omega⟩ dX5_ofFirst_20 rfl rfl (fun c6 => ?_) (fun c6 => ?_)
        · replace q4 := q4.resolve_right (fun h => c6 h.1)
          refine g_aload_n (pc' := 26) 0 dX5_ofFirst_25 rfl rfl ?_
          refine g_getR (pc' := 29) dX5_ofFirst_26 rfl f_X5_21 rfl rfl ?_
          refine g_iload_n (pc' := 30) 2 dX5_ofFirst_29 rfl rfl ?_
          refine g_iconst (pc' := 31) dX5_ofFirst_30 rfl ?_
          refine g_imul (pc' := 32) dX5_ofFirst_31 rfl ?_
          refine g_iload_n (pc' := 33) 3 dX5_ofFirst_32 rfl rfl ?_
          refine g_iadd (pc' := 34) dX5_ofFirst_33 rfl ?_
          refine g_iald (pc' := 35) dX5_ofFirst_34 rfl rfl (by omega) (by omega) (fun v7 ev7 rv7 => ?_)
          refine g_ireturn dX5_ofFirst_35 ?_
          exact ⟨rfl, by first | assumption | decide⟩
        · replace q4 := q4.resolve_left (fun h => absurd (c6.symm.trans h.1) (by decide))
          refine g_iconst (pc' := 24) dX5_ofFirst_23 rfl ?_
          refine g_ireturn dX5_ofFirst_24 ?_
          exact ⟨rfl, by first | assumption | decide⟩
set_option maxHeartbeats 4000000 in
set_option maxRecDepth 100000 in
theorem l_X5_isAsTold_7 (X : Cx) (M : Mm) (hi : IC M) (t : Nat) (ht : isT t) : ∀ (kk : Nat) (i : Int) (h0 : 0 ≤ i) (h3 : i % 3 = 0) (h1 : i ≤ 18), (18 - i).toNat = kk → G X 2 RX5 cX5_isAsTold 4 (some .boolean) (Qi (fun r M1 => M1 = M ∧ (r = 0 ∨ r = 1))) 7 [(3, vi i), (0, vr X 1), (1, vr X t), (2, vr X 8)] [] M := by
  intro kk
  induction kk using Nat.strongRecOn with
  | ind kk ih =>
    intro i h0 h3 h1 hmes
    refine g_iload_n (pc' := 8) 0 dX5_isAsTold_7 rfl rfl ?_
    refine g_aload_n (pc' := 9) 1 dX5_isAsTold_8 rfl rfl ?_
    refine g_getI (pc' := 12) dX5_isAsTold_9 rfl f_X5_105 rfl rfl (fun v1 ev1 rv1 => ?_)
    have bv1 : 0 ≤ v1 ∧ v1 ≤ 6 := by rw [ev1]; exact hi.2.1.1.2.1
    refine g_iconst (pc' := 13) dX5_isAsTold_12 rfl ?_
    refine g_imul (pc' := 14) dX5_isAsTold_13 rfl ?_
    refine g_ic_ge (pc' := 17) (tgt := 45) ⟨by omega, by omega⟩ ⟨by omega, by omega⟩ dX5_isAsTold_14 rfl rfl (fun c2 => ?_) (fun c2 => ?_)
    · refine g_iconst (pc' := 46) dX5_isAsTold_45 rfl ?_
      refine g_zreturn dX5_isAsTold_46 (by omega) ?_
      exact ⟨rfl, by omega⟩
    · refine g_aload_n (pc' := 18) 2 dX5_isAsTold_17 rfl rfl ?_
      refine g_aload_n (pc' := 19) 3 dX5_isAsTold_18 rfl rfl ?_
      refine g_iload_n (pc' := 20) 0 dX5_isAsTold_19 rfl rfl ?_
      refine g_iald (pc' := 21) dX5_isAsTold_20 rfl rfl (by omega) (by omega) (fun v3 ev3 rv3 => ?_)
      refine g_aload_n (pc' := 22) 3 dX5_isAsTold_21 rfl rfl ?_
      refine g_iload_n (pc' := 23) 0 dX5_isAsTold_22 rfl rfl ?_
      refine g_iconst (pc' := 24) dX5_isAsTold_23 rfl ?_
      refine g_iadd (pc' := 25) dX5_isAsTold_24 rfl ?_
      refine g_iald (pc' := 26) dX5_isAsTold_25 rfl rfl (by omega) (by omega) (fun v4 ev4 rv4 => ?_)
      refine g_callVip (pc' := 29) (As := [vi v3, vi v4]) (b := t) (S := []) dX5_isAsTold_26 rfl m_X5_108 w_X7_tasteOf (c_X7_tasteOf X M t ht (hi.1 _ ht) v3 rv3 v4 rv4) rfl ⟨_, _, _, ht.o, rfl, rfl⟩ (by decide) (by decide) rfl (Nat.le_of_ble_eq_true rfl) (fun z6 q5 => ?_)
      refine g_aload_n (pc' := 30) 3 dX5_isAsTold_29 rfl rfl ?_
      refine g_iload_n (pc' := 31) 0 dX5_isAsTold_30 rfl rfl ?_
      refine g_iconst (pc' := 32) dX5_isAsTold_31 rfl ?_
      refine g_iadd (pc' := 33) dX5_isAsTold_32 rfl ?_
      refine g_iald (pc' := 34) dX5_isAsTold_33 rfl rfl (by omega) (by omega) (fun v7 ev7 rv7 => ?_)
      refine g_ic_eq (pc' := 37) (tgt := 39) ⟨by omega, by omega⟩ rv7 dX5_isAsTold_34 rfl rfl (fun c8 => ?_) (fun c8 => ?_)
      · refine g_iinc (pc' := 42) (L' := [(3, vi (i + 3)), (0, vr X 1), (1, vr X t), (2, vr X 8)]) 0 dX5_isAsTold_39 rfl rfl (by decide) rfl ?_
        refine g_goto (tgt := 7) dX5_isAsTold_42 rfl ?_
        refine g_sub [0, 1, 2, 3] rfl ?_
        exact ih _ (by omega) (i + 3) (by omega) (by omega) (by omega) rfl
      · refine g_iconst (pc' := 38) dX5_isAsTold_37 rfl ?_
        refine g_zreturn dX5_isAsTold_38 (by omega) ?_
        exact ⟨rfl, by omega⟩
set_option maxHeartbeats 4000000 in
set_option maxRecDepth 100000 in
theorem c_X5_isAsTold (X : Cx) (M : Mm) (hi : IC M) (t : Nat) (ht : isT t) : Con X 2 yX5_isAsTold cX5_isAsTold 4 (some .boolean) [vr X 1, vr X t] M (Qi (fun r M1 => M1 = M ∧ (r = 0 ∨ r = 1))) := by
  refine Con.ofG rfl (Nat.le_of_ble_eq_true rfl) ?_
  show G X 2 RX5 cX5_isAsTold 4 (some .boolean) (Qi (fun r M1 => M1 = M ∧ (r = 0 ∨ r = 1))) 0 [(0, vr X 1), (1, vr X t)] [] M
  refine g_aload_n (pc' := 1) 0 dX5_isAsTold_0 rfl rfl ?_
  refine g_getR (pc' := 4) dX5_isAsTold_1 rfl f_X5_102 rfl rfl ?_
  refine g_astore_n (pc' := 5) (i := 2) (L' := [(2, vr X 8), (0, vr X 1), (1, vr X t)]) dX5_isAsTold_4 rfl rfl (by decide) rfl ?_
  refine g_iconst (pc' := 6) dX5_isAsTold_5 rfl ?_
  refine g_istore_n (pc' := 7) (i := 3) (L' := [(3, vi 0), (2, vr X 8), (0, vr X 1), (1, vr X t)]) dX5_isAsTold_6 rfl rfl (by decide) rfl ?_
  refine g_sub [0, 2, 3, 1] rfl ?_
  exact l_X5_isAsTold_7 X M hi t ht _ 0 (by omega) (by omega) (by omega) rfl
set_option maxHeartbeats 4000000 in
set_option maxRecDepth 100000 in
theorem j_X5_judge_58 (X : Cx) (M : Mm) (hi : IC M) (t : Nat) (ht : isT t) (htr : 62 ≤ t ∧ t ≤ 77) (nr : Int) (fa : Int) (M1 : Mm) (ic1 : IC M1) (fr1 : Fr (fun c => c = 60 ∨ c = 83) M M1) (hn : nr = 0 ∨ nr = 1) (hf : fa = 0 ∨ fa = 1) : G X 3 RX5 cX5_judge 5 none (Qv (fun M1 => IC M1 ∧ Fr (fun c => c = 60 ∨ c = 83) M M1)) 58 [(3, vi nr), (4, vi fa), (0, vr X 60), (1, vr X 1), (2, vr X t)] [] M1 := by
  refine g_iload_n (pc' := 59) 0 dX5_judge_58 rfl rfl ?_
  refine g_if_ne (pc' := 62) (tgt := 68) ⟨by omega, by omega⟩ dX5_judge_59 rfl rfl (fun c1 => ?_) (fun c1 => ?_)
  · refine g_aload_n (pc' := 69) 2 dX5_judge_68 rfl rfl ?_
    refine g_getI (pc' := 72) dX5_judge_69 rfl f_X5_42 rfl rfl (fun v2 ev2 rv2 => ?_)
    refine g_if_ne (pc' := 75) (tgt := 90) rv2 dX5_judge_72 rfl rfl (fun c3 => ?_) (fun c3 => ?_)
    · refine g_aload_n (pc' := 91) 2 dX5_judge_90 rfl rfl ?_
      refine g_dup (pc' := 92) dX5_judge_91 rfl rfl ?_
      refine g_getI (pc' := 95) dX5_judge_92 rfl f_X5_42 rfl rfl (fun v4 ev4 rv4 => ?_)
      obtain rfl : v2 = v4 := ev2.trans ev4.symm
      refine g_iconst (pc' := 96) dX5_judge_95 rfl ?_
      refine g_iadd (pc' := 97) dX5_judge_96 rfl ?_
      refine g_nrmI (fun n5 rn5 en5 => ?_)
      have bn5 : (-2147483648 ≤ v2 + 1 ∧ v2 + 1 ≤ 2147483647) → n5 = v2 + 1 := fun h => en5.trans (bm32 h)
      refine g_putI (pc' := 100) dX5_judge_97 rfl p_X5_42 rfl rfl rn5 (fun M6 hM6 => ?_)
      have iM6 : IC M6 := IC.wr ic1 hM6 (by unfold okw isT; first | decide | omega)
      have fM6 : Fr (fun c => c = 60 ∨ c = 83) M M6 := Fr.wr fr1 hM6 (by first | decide | omega | (dsimp only; omega))
      have xM6_60_8 : M6 60 8 = n5 := by rw [hM6]; exact mu_at _ _ _ _
      refine g_vreturn dX5_judge_100 ?_
      exact ⟨iM6, fM6⟩
    · refine g_aload_n (pc' := 76) 2 dX5_judge_75 rfl rfl ?_
      refine g_getR (pc' := 79) dX5_judge_76 rfl f_X5_17 rfl rfl ?_
      refine g_iconst (pc' := 80) dX5_judge_79 rfl ?_
      refine g_aload_n (pc' := 81) 2 dX5_judge_80 rfl rfl ?_
      refine g_getR (pc' := 84) dX5_judge_81 rfl f_X5_21 rfl rfl ?_
      refine g_iconst (pc' := 85) dX5_judge_84 rfl ?_
      refine g_bipush (pc' := 87) (v := 9) dX5_judge_85 rfl (by decide) ?_
      refine g_copyI (pc' := 90) (sp := 0) (dp := 0) (n := 9) dX5_judge_87 rfl m_X5_96 mn_copy ms_copy mi_Sys rfl rfl (by decide) (by decide) (by decide) (Nat.le_of_ble_eq_true rfl) (fun M7 hM7 => ?_)
      have iM7 : IC M7 := IC.cp ic1 hM7 (by unfold free isT; omega)
      have fM7 : Fr (fun c => c = 60 ∨ c = 83) M M7 := Fr.cp fr1 hM7 (by first | decide | omega | (dsimp only; omega))
      refine g_aload_n (pc' := 91) 2 dX5_judge_90 rfl rfl ?_
      refine g_dup (pc' := 92) dX5_judge_91 rfl rfl ?_
      refine g_getI (pc' := 95) dX5_judge_92 rfl f_X5_42 rfl rfl (fun v8 ev8 rv8 => ?_)
      refine g_iconst (pc' := 96) dX5_judge_95 rfl ?_
      refine g_iadd (pc' := 97) dX5_judge_96 rfl ?_
      refine g_nrmI (fun n9 rn9 en9 => ?_)
      have bn9 : (-2147483648 ≤ v8 + 1 ∧ v8 + 1 ≤ 2147483647) → n9 = v8 + 1 := fun h => en9.trans (bm32 h)
      refine g_putI (pc' := 100) dX5_judge_97 rfl p_X5_42 rfl rfl rn9 (fun M10 hM10 => ?_)
      have iM10 : IC M10 := IC.wr iM7 hM10 (by unfold okw isT; first | decide | omega)
      have fM10 : Fr (fun c => c = 60 ∨ c = 83) M M10 := Fr.wr fM7 hM10 (by first | decide | omega | (dsimp only; omega))
      have xM10_60_8 : M10 60 8 = n9 := by rw [hM10]; exact mu_at _ _ _ _
      refine g_vreturn dX5_judge_100 ?_
      exact ⟨iM10, fM10⟩
  · refine g_iload (pc' := 64) 1 dX5_judge_62 rfl rfl ?_
    refine g_if_ne (pc' := 67) (tgt := 68) ⟨by omega, by omega⟩ dX5_judge_64 rfl rfl (fun c11 => ?_) (fun c11 => ?_)
    · refine g_aload_n (pc' := 69) 2 dX5_judge_68 rfl rfl ?_
      refine g_getI (pc' := 72) dX5_judge_69 rfl f_X5_42 rfl rfl (fun v12 ev12 rv12 => ?_)
      refine g_if_ne (pc' := 75) (tgt := 90) rv12 dX5_judge_72 rfl rfl (fun c13 => ?_) (fun c13 => ?_)
      · refine g_aload_n (pc' := 91) 2 dX5_judge_90 rfl rfl ?_
        refine g_dup (pc' := 92) dX5_judge_91 rfl rfl ?_
        refine g_getI (pc' := 95) dX5_judge_92 rfl f_X5_42 rfl rfl (fun v14 ev14 rv14 => ?_)
        obtain rfl : v12 = v14 := ev12.trans ev14.symm
        refine g_iconst (pc' := 96) dX5_judge_95 rfl ?_
        refine g_iadd (pc' := 97) dX5_judge_96 rfl ?_
        refine g_nrmI (fun n15 rn15 en15 => ?_)
        have bn15 : (-2147483648 ≤ v12 + 1 ∧ v12 + 1 ≤ 2147483647) → n15 = v12 + 1 := fun h => en15.trans (bm32 h)
        refine g_putI (pc' := 100) dX5_judge_97 rfl p_X5_42 rfl rfl rn15 (fun M16 hM16 => ?_)
        have iM16 : IC M16 := IC.wr ic1 hM16 (by unfold okw isT; first | decide | omega)
        have fM16 : Fr (fun c => c = 60 ∨ c = 83) M M16 := Fr.wr fr1 hM16 (by first | decide | omega | (dsimp only; omega))
        have xM16_60_8 : M16 60 8 = n15 := by rw [hM16]; exact mu_at _ _ _ _
        refine g_vreturn dX5_judge_100 ?_
        exact ⟨iM16, fM16⟩
      · refine g_aload_n (pc' := 76) 2 dX5_judge_75 rfl rfl ?_
        refine g_getR (pc' := 79) dX5_judge_76 rfl f_X5_17 rfl rfl ?_
        refine g_iconst (pc' := 80) dX5_judge_79 rfl ?_
        refine g_aload_n (pc' := 81) 2 dX5_judge_80 rfl rfl ?_
        refine g_getR (pc' := 84) dX5_judge_81 rfl f_X5_21 rfl rfl ?_
        refine g_iconst (pc' := 85) dX5_judge_84 rfl ?_
        refine g_bipush (pc' := 87) (v := 9) dX5_judge_85 rfl (by decide) ?_
        refine g_copyI (pc' := 90) (sp := 0) (dp := 0) (n := 9) dX5_judge_87 rfl m_X5_96 mn_copy ms_copy mi_Sys rfl rfl (by decide) (by decide) (by decide) (Nat.le_of_ble_eq_true rfl) (fun M17 hM17 => ?_)
        have iM17 : IC M17 := IC.cp ic1 hM17 (by unfold free isT; omega)
        have fM17 : Fr (fun c => c = 60 ∨ c = 83) M M17 := Fr.cp fr1 hM17 (by first | decide | omega | (dsimp only; omega))
        refine g_aload_n (pc' := 91) 2 dX5_judge_90 rfl rfl ?_
        refine g_dup (pc' := 92) dX5_judge_91 rfl rfl ?_
        refine g_getI (pc' := 95) dX5_judge_92 rfl f_X5_42 rfl rfl (fun v18 ev18 rv18 => ?_)
        refine g_iconst (pc' := 96) dX5_judge_95 rfl ?_
        refine g_iadd (pc' := 97) dX5_judge_96 rfl ?_
        refine g_nrmI (fun n19 rn19 en19 => ?_)
        have bn19 : (-2147483648 ≤ v18 + 1 ∧ v18 + 1 ≤ 2147483647) → n19 = v18 + 1 := fun h => en19.trans (bm32 h)
        refine g_putI (pc' := 100) dX5_judge_97 rfl p_X5_42 rfl rfl rn19 (fun M20 hM20 => ?_)
        have iM20 : IC M20 := IC.wr iM17 hM20 (by unfold okw isT; first | decide | omega)
        have fM20 : Fr (fun c => c = 60 ∨ c = 83) M M20 := Fr.wr fM17 hM20 (by first | decide | omega | (dsimp only; omega))
        have xM20_60_8 : M20 60 8 = n19 := by rw [hM20]; exact mu_at _ _ _ _
        refine g_vreturn dX5_judge_100 ?_
        exact ⟨iM20, fM20⟩
    · refine g_vreturn dX5_judge_67 ?_
      exact ⟨ic1, fr1⟩
set_option maxHeartbeats 4000000 in
set_option maxRecDepth 100000 in
theorem j_X5_judge_36 (X : Cx) (M : Mm) (hi : IC M) (t : Nat) (ht : isT t) (htr : 62 ≤ t ∧ t ≤ 77) (nr : Int) (M1 : Mm) (ic1 : IC M1) (fr1 : Fr (fun c => c = 60 ∨ c = 83) M M1) (hn : nr = 0 ∨ nr = 1) : G X 3 RX5 cX5_judge 5 none (Qv (fun M1 => IC M1 ∧ Fr (fun c => c = 60 ∨ c = 83) M M1)) 36 [(3, vi nr), (0, vr X 60), (1, vr X 1), (2, vr X t)] [] M1 := by
  refine g_aload_n (pc' := 37) 1 dX5_judge_36 rfl rfl ?_
  refine g_getI (pc' := 40) dX5_judge_37 rfl f_X5_25 rfl rfl (fun v1 ev1 rv1 => ?_)
  refine g_if_ne (pc' := 43) (tgt := 55) rv1 dX5_judge_40 rfl rfl (fun c2 => ?_) (fun c2 => ?_)
  · refine g_iconst (pc' := 56) dX5_judge_55 rfl ?_
    refine g_istore (pc' := 58) (L' := [(4, vi 0), (3, vi nr), (0, vr X 60), (1, vr X 1), (2, vr X t)]) dX5_judge_56 rfl (by decide) rfl ?_
    refine g_sub [1, 0, 2, 3, 4] rfl ?_
    exact j_X5_judge_58 X M hi t ht htr nr 0 M1 ic1 fr1 (by omega) (by omega)
  · refine g_aload_n (pc' := 44) 2 dX5_judge_43 rfl rfl ?_
    refine g_aload_n (pc' := 45) 3 dX5_judge_44 rfl rfl ?_
    refine g_callSip (pc' := 48) (As := [vr X 1, vr X t]) (S := []) dX5_judge_45 rfl m_X5_92 w_X5_isAsTold (c_X5_isAsTold X M1 ic1 t ht) rfl (by decide) (by decide) rfl (Nat.le_of_ble_eq_true rfl) (fun z4 q3 => ?_)
    refine g_if_eq (pc' := 51) (tgt := 55) ⟨by omega, by omega⟩ dX5_judge_48 rfl rfl (fun c5 => ?_) (fun c5 => ?_)
    · refine g_iconst (pc' := 56) dX5_judge_55 rfl ?_
      refine g_istore (pc' := 58) (L' := [(4, vi 0), (3, vi nr), (0, vr X 60), (1, vr X 1), (2, vr X t)]) dX5_judge_56 rfl (by decide) rfl ?_
      refine g_sub [1, 0, 2, 3, 4] rfl ?_
      exact j_X5_judge_58 X M hi t ht htr nr 0 M1 ic1 fr1 (by omega) (by omega)
    · refine g_iconst (pc' := 52) dX5_judge_51 rfl ?_
      refine g_goto (tgt := 56) dX5_judge_52 rfl ?_
      refine g_istore (pc' := 58) (L' := [(4, vi 1), (3, vi nr), (0, vr X 60), (1, vr X 1), (2, vr X t)]) dX5_judge_56 rfl (by decide) rfl ?_
      refine g_sub [1, 0, 2, 3, 4] rfl ?_
      exact j_X5_judge_58 X M hi t ht htr nr 1 M1 ic1 fr1 (by omega) (by omega)
set_option maxHeartbeats 4000000 in
set_option maxRecDepth 100000 in
theorem c_X5_judge (X : Cx) (M : Mm) (hi : IC M) (t : Nat) (ht : isT t) (htr : 62 ≤ t ∧ t ≤ 77) : Con X 3 yX5_judge cX5_judge 5 none [vr X 60, vr X 1, vr X t] M (Qv (fun M1 => IC M1 ∧ Fr (fun c => c = 60 ∨ c = 83) M M1)) := by
  refine Con.ofG rfl (Nat.le_of_ble_eq_true rfl) ?_
  show G X 3 RX5 cX5_judge 5 none (Qv (fun M1 => IC M1 ∧ Fr (fun c => c = 60 ∨ c = 83) M M1)) 0 [(0, vr X 60), (1, vr X 1), (2, vr X t)] [] M
  refine g_aload_n (pc' := 1) 0 dX5_judge_0 rfl rfl ?_
  refine g_getI (pc' := 4) dX5_judge_1 rfl f_X5_25 rfl rfl (fun v1 ev1 rv1 => ?_)
  refine g_if_eq (pc' := 7) (tgt := 34) rv1 dX5_judge_4 rfl rfl (fun c2 => ?_) (fun c2 => ?_)
  · refine g_iconst (pc' := 35) dX5_judge_34 rfl ?_
    refine g_istore_n (pc' := 36) (i := 3) (L' := [(3, vi 0), (0, vr X 60), (1, vr X 1), (2, vr X t)]) dX5_judge_35 rfl rfl (by decide) rfl ?_
    refine g_sub [0, 1, 2, 3] rfl ?_
    exact j_X5_judge_36 X M hi t ht htr 0 M hi Fr.rf (by omega)
  · refine g_aload_n (pc' := 8) 2 dX5_judge_7 rfl rfl ?_
    refine g_aload_n (pc' := 9) 0 dX5_judge_8 rfl rfl ?_
    refine g_getI (pc' := 12) dX5_judge_9 rfl f_X5_29 rfl rfl (fun v3 ev3 rv3 => ?_)
    refine g_aload_n (pc' := 13) 0 dX5_judge_12 rfl rfl ?_
    refine g_getI (pc' := 16) dX5_judge_13 rfl f_X5_33 rfl rfl (fun v4 ev4 rv4 => ?_)
    refine g_aload_n (pc' := 17) 0 dX5_judge_16 rfl rfl ?_
    refine g_getI (pc' := 20) dX5_judge_17 rfl f_X5_36 rfl rfl (fun v5 ev5 rv5 => ?_)
    refine g_aload_n (pc' := 21) 0 dX5_judge_20 rfl rfl ?_
    refine g_getI (pc' := 24) dX5_judge_21 rfl f_X5_39 rfl rfl (fun v6 ev6 rv6 => ?_)
    refine g_callVip (pc' := 27) (As := [vi v3, vi v4, vi v5, vi v6]) (b := t) (S := []) dX5_judge_24 rfl m_X5_88 w_X7_isNear (c_X7_isNear X M t ht (hi.1 _ ht) v3 rv3 v4 rv4 v5 rv5 v6 rv6) rfl ⟨_, _, _, ht.o, rfl, rfl⟩ (by decide) (by decide) rfl (Nat.le_of_ble_eq_true rfl) (fun z8 q7 => ?_)
    refine g_if_eq (pc' := 30) (tgt := 34) ⟨by omega, by omega⟩ dX5_judge_27 rfl rfl (fun c9 => ?_) (fun c9 => ?_)
    · refine g_iconst (pc' := 35) dX5_judge_34 rfl ?_
      refine g_istore_n (pc' := 36) (i := 3) (L' := [(3, vi 0), (0, vr X 60), (1, vr X 1), (2, vr X t)]) dX5_judge_35 rfl rfl (by decide) rfl ?_
      refine g_sub [0, 1, 2, 3] rfl ?_
      exact j_X5_judge_36 X M hi t ht htr 0 M hi Fr.rf (by omega)
    · refine g_iconst (pc' := 31) dX5_judge_30 rfl ?_
      refine g_goto (tgt := 35) dX5_judge_31 rfl ?_
      refine g_istore_n (pc' := 36) (i := 3) (L' := [(3, vi 1), (0, vr X 60), (1, vr X 1), (2, vr X t)]) dX5_judge_35 rfl rfl (by decide) rfl ?_
      refine g_sub [0, 1, 2, 3] rfl ?_
      exact j_X5_judge_36 X M hi t ht htr 1 M hi Fr.rf (by omega)
set_option maxHeartbeats 4000000 in
set_option maxRecDepth 100000 in
theorem c_X5_step (X : Cx) (M : Mm) (hi : IC M) (de : Int) (hde : inI de) (n : Int) (hn : inI n) (sp : Int) (hsp : inI sp) (fm : Int) (hfm : inI fm) (to : Int) (hto : inI to) (hd2 : 0 ≤ de ∧ de ≤ 2) (hs2 : 0 ≤ sp ∧ sp < M 1 2) (hrec : ∀ (M : Mm) (_ : IC M), Con X (8 + 2 * (3 - (de + 1)).toNat) yX5_walk cX5_walk 7 none [vr X 60, vr X 1, vi (de + 1), vi n] M (Qv (fun M1 => IC M1 ∧ Fr (fun c => 60 ≤ c ∧ c ≤ 83) M M1))) : Con X (7 + 2 * (3 - de).toNat) yX5_step cX5_step 9 none [vr X 60, vr X 1, vi de, vi n, vi sp, vi fm, vi to] M (Qv (fun M1 => IC M1 ∧ Fr (fun c => 60 ≤ c ∧ c ≤ 83) M M1)) := by
  refine Con.ofG rfl (Nat.le_of_ble_eq_true rfl) ?_
  show G X (7 + 2 * (3 - de).toNat) RX5 cX5_step 9 none (Qv (fun M1 => IC M1 ∧ Fr (fun c => 60 ≤ c ∧ c ≤ 83) M M1)) 0 [(0, vr X 60), (1, vr X 1), (2, vi de), (3, vi n), (4, vi sp), (5, vi fm), (6, vi to)] [] M
  have hs3 := hi.2.1.1.1
  refine g_aload_n (pc' := 1) 0 dX5_step_0 rfl rfl ?_
  refine g_getI (pc' := 4) dX5_step_1 rfl f_X5_25 rfl rfl (fun v1 ev1 rv1 => ?_)
  refine g_if_eq (pc' := 7) (tgt := 18) rv1 dX5_step_4 rfl rfl (fun c2 => ?_) (fun c2 => ?_)
  · refine g_iconst (pc' := 19) dX5_step_18 rfl ?_
    refine g_istore (pc' := 21) (L' := [(7, vi 0), (0, vr X 60), (1, vr X 1), (2, vi de), (3, vi n), (4, vi sp), (5, vi fm), (6, vi to)]) dX5_step_19 rfl (by decide) rfl ?_
    refine g_iload (pc' := 23) 0 dX5_step_21 rfl rfl ?_
    refine g_if_ne (pc' := 26) (tgt := 49) (by decide) dX5_step_23 rfl rfl (fun c3 => ?_) (fun c3 => ?_)
    · exact absurd c3 (by omega)
    · refine g_aload_n (pc' := 27) 1 dX5_step_26 rfl rfl ?_
      refine g_getR (pc' := 30) dX5_step_27 rfl f_X5_11 rfl rfl ?_
      refine g_iload_n (pc' := 31) 3 dX5_step_30 rfl rfl ?_
      refine g_aald (pc' := 32) (t := 2) (C := RX7) dX5_step_31 rfl rfl (fun _ => rfl) (by omega) (by omega) ?_
      obtain ⟨k4, ek4⟩ : ∃ z : Nat, z = ([62, 67, 72, 77] : List Nat).getD de.toNat 0 := ⟨_, rfl⟩
      rw [← ek4]
      have hk4 : isT k4 := by rw [ek4]; exact (tbD de.toNat (by omega)).1
      have jk4 : k4 = 62 + 5 * de.toNat := by rw [ek4]; exact (tbD de.toNat (by omega)).2
      refine g_iload (pc' := 34) 6 dX5_step_32 rfl rfl ?_
      refine g_iload (pc' := 36) 7 dX5_step_34 rfl rfl ?_
      refine g_aload_n (pc' := 37) 2 dX5_step_36 rfl rfl ?_
      refine g_getR (pc' := 40) dX5_step_37 rfl f_X5_74 rfl rfl ?_
      refine g_iload (pc' := 42) 5 dX5_step_40 rfl rfl ?_
      refine g_iald (pc' := 43) dX5_step_42 rfl rfl (by omega) (by omega) (fun v5 ev5 rv5 => ?_)
      refine g_callVip (pc' := 46) (As := [vi fm, vi to, vi v5]) (b := k4) (S := []) dX5_step_43 rfl m_X5_77 w_X7_canCarry (c_X7_canCarry X M k4 hk4 (hi.1 _ hk4) fm hfm to hto v5 rv5) rfl ⟨_, _, _, hk4.o, rfl, rfl⟩ (by omega) (by decide) rfl (Nat.le_of_ble_eq_true rfl) (fun z7 q6 => ?_)
      refine g_if_ne (pc' := 49) (tgt := 50) ⟨by omega, by omega⟩ dX5_step_46 rfl rfl (fun c8 => ?_) (fun c8 => ?_)
      · refine g_aload_n (pc' := 51) 1 dX5_step_50 rfl rfl ?_
        refine g_getR (pc' := 54) dX5_step_51 rfl f_X5_11 rfl rfl ?_
        refine g_iload_n (pc' := 55) 3 dX5_step_54 rfl rfl ?_
        refine g_iconst (pc' := 56) dX5_step_55 rfl ?_
        refine g_iadd (pc' := 57) dX5_step_56 rfl ?_
        refine g_aald (pc' := 58) (t := 2) (C := RX7) dX5_step_57 rfl rfl (fun _ => rfl) (by omega) (by omega) ?_
        obtain ⟨k9, ek9⟩ : ∃ z : Nat, z = ([62, 67, 72, 77] : List Nat).getD (de + 1).toNat 0 := ⟨_, rfl⟩
        rw [← ek9]
        have hk9 : isT k9 := by rw [ek9]; exact (tbD (de + 1).toNat (by omega)).1
        have jk9 : k9 = 62 + 5 * (de + 1).toNat := by rw [ek9]; exact (tbD (de + 1).toNat (by omega)).2
        refine g_astore (pc' := 60) (L' := [(8, vr X k9), (7, vi 0), (0, vr X 60), (1, vr X 1), (2, vi de), (3, vi n), (4, vi sp), (5, vi fm), (6, vi to)]) dX5_step_58 rfl (by decide) rfl ?_
        refine g_aload (pc' := 62) 0 dX5_step_60 rfl rfl ?_
        refine g_aload_n (pc' := 63) 2 dX5_step_62 rfl rfl ?_
        refine g_getR (pc' := 66) dX5_step_63 rfl f_X5_11 rfl rfl ?_
        refine g_iload_n (pc' := 67) 4 dX5_step_66 rfl rfl ?_
        refine g_aald (pc' := 68) (t := 2) (C := RX7) dX5_step_67 rfl rfl (fun _ => rfl) (by omega) (by omega) ?_
        obtain ⟨k10, ek10⟩ : ∃ z : Nat, z = ([62, 67, 72, 77] : List Nat).getD de.toNat 0 := ⟨_, rfl⟩
        rw [← ek10]
        have hk10 : isT k10 := by rw [ek10]; exact (tbD de.toNat (by omega)).1
        have jk10 : k10 = 62 + 5 * de.toNat := by rw [ek10]; exact (tbD de.toNat (by omega)).2
        refine g_callVv (pc' := 71) (As := [vr X k10]) (b := k9) (S := []) dX5_step_68 rfl m_X5_51 w_X7_copyFrom (c_X7_copyFrom X M k9 hk9 (hi.1 _ hk9) k10 hk10 (hi.1 _ hk10) (by omega) (isT.apart hk9 hk10 (by omega))) rfl ⟨_, _, _, hk9.o, rfl, rfl⟩ (by omega) (by decide) rfl (Nat.le_of_ble_eq_true rfl) (fun M12 q11 => ?_)
        obtain ⟨kM12, fM120, gM120⟩ := q11
        have iM12 : IC M12 := IC.ofT hi hk9 fM120 kM12
        have fM12 : Fr (fun c => 60 ≤ c ∧ c ≤ 83) M M12 := Fr.tr Fr.rf fM120 (fun c z => by unfold inT at z; first | omega | (dsimp only; omega))
        have q1_2_M12 : (M12 1 2 = M 1 2) := (congrFun (fM120 1 (by unfold inT; first | decide | omega)) 2)
        refine g_aload (pc' := 73) 0 dX5_step_71 rfl rfl ?_
        refine g_iload (pc' := 75) 7 dX5_step_73 rfl rfl ?_
        refine g_iload (pc' := 77) 8 dX5_step_75 rfl rfl ?_
        refine g_aload_n (pc' := 78) 3 dX5_step_77 rfl rfl ?_
        refine g_getR (pc' := 81) dX5_step_78 rfl f_X5_74 rfl rfl ?_
        refine g_iload (pc' := 83) 6 dX5_step_81 rfl rfl ?_
        refine g_iald (pc' := 84) dX5_step_83 rfl rfl (by omega) (by omega) (fun v13 ev13 rv13 => ?_)
        refine g_callVi (pc' := 87) (As := [vi fm, vi to, vi v13]) (b := k9) (S := []) dX5_step_84 rfl m_X5_80 w_X7_carry (c_X7_carry X M12 k9 hk9 (iM12.1 _ hk9) fm hfm to hto v13 rv13) rfl ⟨_, _, _, hk9.o, rfl, rfl⟩ (by omega) (by decide) rfl (Nat.le_of_ble_eq_true rfl) (fun z15 M16 q14 => ?_)
        obtain ⟨kM16, fM160, gM160, pM16⟩ := q14
        have iM16 : IC M16 := IC.ofT iM12 hk9 fM160 kM16
        have fM16 : Fr (fun c => 60 ≤ c ∧ c ≤ 83) M M16 := Fr.tr fM12 fM160 (fun c z => by unfold inT at z; first | omega | (dsimp only; omega))
        have q1_2_M16 : (M16 1 2 = M 1 2) := (congrFun (fM160 1 (by unfold inT; first | decide | omega)) 2).trans q1_2_M12
        refine g_if_ne (pc' := 90) (tgt := 113) ⟨by omega, by omega⟩ dX5_step_87 rfl rfl (fun c17 => ?_) (fun c17 => ?_)
        · refine g_vreturn dX5_step_113 ?_
          exact ⟨iM16, fM16⟩
        · refine g_aload_n (pc' := 91) 2 dX5_step_90 rfl rfl ?_
          refine g_getR (pc' := 94) dX5_step_91 rfl f_X5_17 rfl rfl ?_
          refine g_iload_n (pc' := 95) 4 dX5_step_94 rfl rfl ?_
          refine g_iload (pc' := 97) 6 dX5_step_95 rfl rfl ?_
          refine g_iload (pc' := 99) 7 dX5_step_97 rfl rfl ?_
          refine g_iload (pc' := 101) 8 dX5_step_99 rfl rfl ?_
          refine g_callSv (pc' := 104) (As := [vr X 82, vi de, vi sp, vi fm, vi to]) (S := []) dX5_step_101 rfl m_X5_84 w_X9_putTriple (c_X9_putTriple X M16 iM16 82 9 rfl (by unfold free isT; omega) de hde sp hsp fm hfm to hto ⟨by omega, by omega⟩) rfl (by omega) (by decide) rfl (Nat.le_of_ble_eq_true rfl) (fun M19 q18 => ?_)
          obtain ⟨iM19, fM190⟩ := q18
          have fM19 : Fr (fun c => 60 ≤ c ∧ c ≤ 83) M M19 := Fr.tr fM16 fM190 (fun c z => by first | omega | (dsimp only at z ⊢; omega))
          have q1_2_M19 : (M19 1 2 = M 1 2) := (congrFun (fM190 1 (by first | decide | omega | (dsimp only; omega))) 2).trans q1_2_M16
          refine g_aload_n (pc' := 105) 2 dX5_step_104 rfl rfl ?_
          refine g_aload_n (pc' := 106) 3 dX5_step_105 rfl rfl ?_
          refine g_iload_n (pc' := 107) 4 dX5_step_106 rfl rfl ?_
          refine g_iconst (pc' := 108) dX5_step_107 rfl ?_
          refine g_iadd (pc' := 109) dX5_step_108 rfl ?_
          refine g_iload_n (pc' := 110) 5 dX5_step_109 rfl rfl ?_
          refine g_callVv (pc' := 113) (As := [vr X 1, vi (de + 1), vi n]) (b := 60) (S := []) dX5_step_110 rfl m_X5_55 w_X5_walk (hrec M19 iM19) rfl ⟨_, _, _, rfl, rfl, rfl⟩ (by omega) (by decide) rfl (Nat.le_of_ble_eq_true rfl) (fun M21 q20 => ?_)
          obtain ⟨iM21, fM210⟩ := q20
          have fM21 : Fr (fun c => 60 ≤ c ∧ c ≤ 83) M M21 := Fr.tr fM19 fM210 (fun _ z => z)
          have q1_2_M21 : (M21 1 2 = M 1 2) := (congrFun (fM210 1 (by first | decide | omega | (dsimp only; omega))) 2).trans q1_2_M19
          refine g_vreturn dX5_step_113 ?_
          exact ⟨iM21, fM21⟩
      · refine g_vreturn dX5_step_49 ?_
        exact ⟨hi, Fr.rf⟩
  · refine g_aload_n (pc' := 8) 0 dX5_step_7 rfl rfl ?_
    refine g_getI (pc' := 11) dX5_step_8 rfl f_X5_42 rfl rfl (fun v22 ev22 rv22 => ?_)
    refine g_if_le (pc' := 14) (tgt := 18) rv22 dX5_step_11 rfl rfl (fun c23 => ?_) (fun c23 => ?_)
    · refine g_iconst (pc' := 19) dX5_step_18 rfl ?_
      refine g_istore (pc' := 21) (L' := [(7, vi 0), (0, vr X 60), (1, vr X 1), (2, vi de), (3, vi n), (4, vi sp), (5, vi fm), (6, vi to)]) dX5_step_19 rfl (by decide) rfl ?_
      refine g_iload (pc' := 23) 0 dX5_step_21 rfl rfl ?_
      refine g_if_ne (pc' := 26) (tgt := 49) (by decide) dX5_step_23 rfl rfl (fun c24 => ?_) (fun c24 => ?_)
      · exact absurd c24 (by omega)
      · refine g_aload_n (pc' := 27) 1 dX5_step_26 rfl rfl ?_
        refine g_getR (pc' := 30) dX5_step_27 rfl f_X5_11 rfl rfl ?_
        refine g_iload_n (pc' := 31) 3 dX5_step_30 rfl rfl ?_
        refine g_aald (pc' := 32) (t := 2) (C := RX7) dX5_step_31 rfl rfl (fun _ => rfl) (by omega) (by omega) ?_
        obtain ⟨k25, ek25⟩ : ∃ z : Nat, z = ([62, 67, 72, 77] : List Nat).getD de.toNat 0 := ⟨_, rfl⟩
        rw [← ek25]
        have hk25 : isT k25 := by rw [ek25]; exact (tbD de.toNat (by omega)).1
        have jk25 : k25 = 62 + 5 * de.toNat := by rw [ek25]; exact (tbD de.toNat (by omega)).2
        refine g_iload (pc' := 34) 6 dX5_step_32 rfl rfl ?_
        refine g_iload (pc' := 36) 7 dX5_step_34 rfl rfl ?_
        refine g_aload_n (pc' := 37) 2 dX5_step_36 rfl rfl ?_
        refine g_getR (pc' := 40) dX5_step_37 rfl f_X5_74 rfl rfl ?_
        refine g_iload (pc' := 42) 5 dX5_step_40 rfl rfl ?_
        refine g_iald (pc' := 43) dX5_step_42 rfl rfl (by omega) (by omega) (fun v26 ev26 rv26 => ?_)
        refine g_callVip (pc' := 46) (As := [vi fm, vi to, vi v26]) (b := k25) (S := []) dX5_step_43 rfl m_X5_77 w_X7_canCarry (c_X7_canCarry X M k25 hk25 (hi.1 _ hk25) fm hfm to hto v26 rv26) rfl ⟨_, _, _, hk25.o, rfl, rfl⟩ (by omega) (by decide) rfl (Nat.le_of_ble_eq_true rfl) (fun z28 q27 => ?_)
        refine g_if_ne (pc' := 49) (tgt := 50) ⟨by omega, by omega⟩ dX5_step_46 rfl rfl (fun c29 => ?_) (fun c29 => ?_)
        · refine g_aload_n (pc' := 51) 1 dX5_step_50 rfl rfl ?_
          refine g_getR (pc' := 54) dX5_step_51 rfl f_X5_11 rfl rfl ?_
          refine g_iload_n (pc' := 55) 3 dX5_step_54 rfl rfl ?_
          refine g_iconst (pc' := 56) dX5_step_55 rfl ?_
          refine g_iadd (pc' := 57) dX5_step_56 rfl ?_
          refine g_aald (pc' := 58) (t := 2) (C := RX7) dX5_step_57 rfl rfl (fun _ => rfl) (by omega) (by omega) ?_
          obtain ⟨k30, ek30⟩ : ∃ z : Nat, z = ([62, 67, 72, 77] : List Nat).getD (de + 1).toNat 0 := ⟨_, rfl⟩
          rw [← ek30]
          have hk30 : isT k30 := by rw [ek30]; exact (tbD (de + 1).toNat (by omega)).1
          have jk30 : k30 = 62 + 5 * (de + 1).toNat := by rw [ek30]; exact (tbD (de + 1).toNat (by omega)).2
          refine g_astore (pc' := 60) (L' := [(8, vr X k30), (7, vi 0), (0, vr X 60), (1, vr X 1), (2, vi de), (3, vi n), (4, vi sp), (5, vi fm), (6, vi to)]) dX5_step_58 rfl (by decide) rfl ?_
          refine g_aload (pc' := 62) 0 dX5_step_60 rfl rfl ?_
          refine g_aload_n (pc' := 63) 2 dX5_step_62 rfl rfl ?_
          refine g_getR (pc' := 66) dX5_step_63 rfl f_X5_11 rfl rfl ?_
          refine g_iload_n (pc' := 67) 4 dX5_step_66 rfl rfl ?_
          refine g_aald (pc' := 68) (t := 2) (C := RX7) dX5_step_67 rfl rfl (fun _ => rfl) (by omega) (by omega) ?_
          obtain ⟨k31, ek31⟩ : ∃ z : Nat, z = ([62, 67, 72, 77] : List Nat).getD de.toNat 0 := ⟨_, rfl⟩
          rw [← ek31]
          have hk31 : isT k31 := by rw [ek31]; exact (tbD de.toNat (by omega)).1
          have jk31 : k31 = 62 + 5 * de.toNat := by rw [ek31]; exact (tbD de.toNat (by omega)).2
          refine g_callVv (pc' := 71) (As := [vr X k31]) (b := k30) (S := []) dX5_step_68 rfl m_X5_51 w_X7_copyFrom (c_X7_copyFrom X M k30 hk30 (hi.1 _ hk30) k31 hk31 (hi.1 _ hk31) (by omega) (isT.apart hk30 hk31 (by omega))) rfl ⟨_, _, _, hk30.o, rfl, rfl⟩ (by omega) (by decide) rfl (Nat.le_of_ble_eq_true rfl) (fun M33 q32 => ?_)
          obtain ⟨kM33, fM330, gM330⟩ := q32
          have iM33 : IC M33 := IC.ofT hi hk30 fM330 kM33
          have fM33 : Fr (fun c => 60 ≤ c ∧ c ≤ 83) M M33 := Fr.tr Fr.rf fM330 (fun c z => by unfold inT at z; first | omega | (dsimp only; omega))
          have q1_2_M33 : (M33 1 2 = M 1 2) := (congrFun (fM330 1 (by unfold inT; first | decide | omega)) 2)
          refine g_aload (pc' := 73) 0 dX5_step_71 rfl rfl ?_
          refine g_iload (pc' := 75) 7 dX5_step_73 rfl rfl ?_
          refine g_iload (pc' := 77) 8 dX5_step_75 rfl rfl ?_
          refine g_aload_n (pc' := 78) 3 dX5_step_77 rfl rfl ?_
          refine g_getR (pc' := 81) dX5_step_78 rfl f_X5_74 rfl rfl ?_
          refine g_iload (pc' := 83) 6 dX5_step_81 rfl rfl ?_
          refine g_iald (pc' := 84) dX5_step_83 rfl rfl (by omega) (by omega) (fun v34 ev34 rv34 => ?_)
          refine g_callVi (pc' := 87) (As := [vi fm, vi to, vi v34]) (b := k30) (S := []) dX5_step_84 rfl m_X5_80 w_X7_carry (c_X7_carry X M33 k30 hk30 (iM33.1 _ hk30) fm hfm to hto v34 rv34) rfl ⟨_, _, _, hk30.o, rfl, rfl⟩ (by omega) (by decide) rfl (Nat.le_of_ble_eq_true rfl) (fun z36 M37 q35 => ?_)
          obtain ⟨kM37, fM370, gM370, pM37⟩ := q35
          have iM37 : IC M37 := IC.ofT iM33 hk30 fM370 kM37
          have fM37 : Fr (fun c => 60 ≤ c ∧ c ≤ 83) M M37 := Fr.tr fM33 fM370 (fun c z => by unfold inT at z; first | omega | (dsimp only; omega))
          have q1_2_M37 : (M37 1 2 = M 1 2) := (congrFun (fM370 1 (by unfold inT; first | decide | omega)) 2).trans q1_2_M33
          refine g_if_ne (pc' := 90) (tgt := 113) ⟨by omega, by omega⟩ dX5_step_87 rfl rfl (fun c38 => ?_) (fun c38 => ?_)
          · refine g_vreturn dX5_step_113 ?_
            exact ⟨iM37, fM37⟩
          · refine g_aload_n (pc' := 91) 2 dX5_step_90 rfl rfl ?_
            refine g_getR (pc' := 94) dX5_step_91 rfl f_X5_17 rfl rfl ?_
            refine g_iload_n (pc' := 95) 4 dX5_step_94 rfl rfl ?_
            refine g_iload (pc' := 97) 6 dX5_step_95 rfl rfl ?_
            refine g_iload (pc' := 99) 7 dX5_step_97 rfl rfl ?_
            refine g_iload (pc' := 101) 8 dX5_step_99 rfl rfl ?_
            refine g_callSv (pc' := 104) (As := [vr X 82, vi de, vi sp, vi fm, vi to]) (S := []) dX5_step_101 rfl m_X5_84 w_X9_putTriple (c_X9_putTriple X M37 iM37 82 9 rfl (by unfold free isT; omega) de hde sp hsp fm hfm to hto ⟨by omega, by omega⟩) rfl (by omega) (by decide) rfl (Nat.le_of_ble_eq_true rfl) (fun M40 q39 => ?_)
            obtain ⟨iM40, fM400⟩ := q39
            have fM40 : Fr (fun c => 60 ≤ c ∧ c ≤ 83) M M40 := Fr.tr fM37 fM400 (fun c z => by first | omega | (dsimp only at z ⊢; omega))
            have q1_2_M40 : (M40 1 2 = M 1 2) := (congrFun (fM400 1 (by first | decide | omega | (dsimp only; omega))) 2).trans q1_2_M37
            refine g_aload_n (pc' := 105) 2 dX5_step_104 rfl rfl ?_
            refine g_aload_n (pc' := 106) 3 dX5_step_105 rfl rfl ?_
            refine g_iload_n (pc' := 107) 4 dX5_step_106 rfl rfl ?_
            refine g_iconst (pc' := 108) dX5_step_107 rfl ?_
            refine g_iadd (pc' := 109) dX5_step_108 rfl ?_
            refine g_iload_n (pc' := 110) 5 dX5_step_109 rfl rfl ?_
            refine g_callVv (pc' := 113) (As := [vr X 1, vi (de + 1), vi n]) (b := 60) (S := []) dX5_step_110 rfl m_X5_55 w_X5_walk (hrec M40 iM40) rfl ⟨_, _, _, rfl, rfl, rfl⟩ (by omega) (by decide) rfl (Nat.le_of_ble_eq_true rfl) (fun M42 q41 => ?_)
            obtain ⟨iM42, fM420⟩ := q41
            have fM42 : Fr (fun c => 60 ≤ c ∧ c ≤ 83) M M42 := Fr.tr fM40 fM420 (fun _ z => z)
            have q1_2_M42 : (M42 1 2 = M 1 2) := (congrFun (fM420 1 (by first | decide | omega | (dsimp only; omega))) 2).trans q1_2_M40
            refine g_vreturn dX5_step_113 ?_
            exact ⟨iM42, fM42⟩
        · refine g_vreturn dX5_step_49 ?_
          exact ⟨hi, Fr.rf⟩
    · refine g_iconst (pc' := 15) dX5_step_14 rfl ?_
      refine g_goto (tgt := 19) dX5_step_15 rfl ?_
      refine g_istore (pc' := 21) (L' := [(7, vi 1), (0, vr X 60), (1, vr X 1), (2, vi de), (3, vi n), (4, vi sp), (5, vi fm), (6, vi to)]) dX5_step_19 rfl (by decide) rfl ?_
      refine g_iload (pc' := 23) 0 dX5_step_21 rfl rfl ?_
      refine g_if_ne (pc' := 26) (tgt := 49) (by decide) dX5_step_23 rfl rfl (fun c43 => ?_) (fun c43 => ?_)
      · refine g_vreturn dX5_step_49 ?_
        exact ⟨hi, Fr.rf⟩
      · exact absurd c43 (by omega)
set_option maxHeartbeats 4000000 in
set_option maxRecDepth 100000 in
theorem l_X5_walk_46 (X : Cx) (M : Mm) (hi : IC M) (de : Int) (hde : inI de) (n : Int) (hn : inI n) (hd2 : 0 ≤ de ∧ de ≤ 3) (hst : ∀ (M : Mm) (_ : IC M) (sp fm to : Int), inI sp → inI fm → inI to → de ≤ 2 → 0 ≤ sp → sp < M 1 2 → Con X (7 + 2 * (3 - de).toNat) yX5_step cX5_step 9 none [vr X 60, vr X 1, vi de, vi n, vi sp, vi fm, vi to] M (Qv (fun M1 => IC M1 ∧ Fr (fun c => 60 ≤ c ∧ c ≤ 83) M M1))) (n25 : Nat) (n37 : Nat) (ihO : ∀ mO : Nat, mO < n37 → ∀ (sp : Int) (fm : Int) (M1 : Mm) (ic1 : IC M1) (fr1 : Fr (fun c => 60 ≤ c ∧ c ≤ 83) M M1) (q1_2 : (M1 1 2 = M 1 2)) (hde2 : de ≤ 2) (a0 : 0 ≤ sp) (a1 : sp < M 1 2) (aO : n25 = (3 - sp).toNat) (b0 : 0 ≤ fm) (b1 : fm ≤ 3), (3 - fm).toNat = mO → G X (8 + 2 * (3 - de).toNat) RX5 cX5_walk 7 none (Qv (fun M1 => IC M1 ∧ Fr (fun c => 60 ≤ c ∧ c ≤ 83) M M1)) 37 [(4, vi sp), (5, vi fm), (0, vr X 60), (1, vr X 1), (2, vi de), (3, vi n)] [] M1) : ∀ (kk : Nat) (sp : Int) (fm : Int) (to : Int) (M1 : Mm) (ic1 : IC M1) (fr1 : Fr (fun c => 60 ≤ c ∧ c ≤ 83) M M1) (q1_2 : (M1 1 2 = M 1 2)) (hde2 : de ≤ 2) (a0 : 0 ≤ sp) (a1 : sp < M 1 2) (aO : n25 = (3 - sp).toNat) (b0 : 0 ≤ fm) (b1 : fm < 3) (bO : n37 = (3 - fm).toNat) (c0 : 0 ≤ to) (c1 : to ≤ 3), (3 - to).toNat = kk → G X (8 + 2 * (3 - de).toNat) RX5 cX5_walk 7 none (Qv (fun M1 => IC M1 ∧ Fr (fun c => 60 ≤ c ∧ c ≤ 83) M M1)) 46 [(4, vi sp), (5, vi fm), (6, vi to), (0, vr X 60), (1, vr X 1), (2, vi de), (3, vi n)] [] M1 := by
  intro kk
  induction kk using Nat.strongRecOn with
  | ind kk ih =>
    intro sp fm to M1 ic1 fr1 q1_2 hde2 a0 a1 aO b0 b1 bO c0 c1 hmes
    have hs3 := hi.2.1.1.1
    have hs4 := q1_2
    refine g_iload (pc' := 48) 2 dX5_walk_46 rfl rfl ?_
    refine g_iconst (pc' := 49) dX5_walk_48 rfl ?_
    refine g_ic_ge (pc' := 52) (tgt := 71) ⟨by omega, by omega⟩ (by decide) dX5_walk_49 rfl rfl (fun c1 => ?_) (fun c1 => ?_)
    · refine g_iinc (pc' := 74) (L' := [(5, vi (fm + 1)), (4, vi sp), (6, vi to), (0, vr X 60), (1, vr X 1), (2, vi de), (3, vi n)]) 1 dX5_walk_71 rfl rfl (by decide) rfl ?_
      refine g_goto (tgt := 37) dX5_walk_74 rfl ?_
      refine g_sub [1, 0, 3, 4, 5, 6] rfl ?_
      exact ihO _ (by omega) sp (fm + 1) M1 ic1 fr1 q1_2 (by omega) (by omega) (by omega) (by omega) (by omega) (by omega) rfl
    · refine g_aload_n (pc' := 53) 3 dX5_walk_52 rfl rfl ?_
      refine g_aload_n (pc' := 54) 4 dX5_walk_53 rfl rfl ?_
      refine g_iload_n (pc' := 55) 5 dX5_walk_54 rfl rfl ?_
      refine g_iload_n (pc' := 56) 6 dX5_walk_55 rfl rfl ?_
      refine g_iload (pc' := 58) 0 dX5_walk_56 rfl rfl ?_
      refine g_iload (pc' := 60) 1 dX5_walk_58 rfl rfl ?_
      refine g_iload (pc' := 62) 2 dX5_walk_60 rfl rfl ?_
      refine g_callVv (pc' := 65) (As := [vr X 1, vi de, vi n, vi sp, vi fm, vi to]) (b := 60) (S := []) dX5_walk_62 rfl m_X5_70 w_X5_step (hst M1 ic1 sp fm to ⟨by omega, by omega⟩ ⟨by omega, by omega⟩ ⟨by omega, by omega⟩ (by omega) (by omega) (by omega)) rfl ⟨_, _, _, rfl, rfl, rfl⟩ (by omega) (by decide) rfl (Nat.le_of_ble_eq_true rfl) (fun M3 q2 => ?_)
      obtain ⟨iM3, fM30⟩ := q2
      have fM3 : Fr (fun c => 60 ≤ c ∧ c ≤ 83) M M3 := Fr.tr fr1 fM30 (fun _ z => z)
      have q1_2_M3 : (M3 1 2 = M 1 2) := (congrFun (fM30 1 (by first | decide | omega | (dsimp only; omega))) 2).trans q1_2
      refine g_iinc (pc' := 68) (L' := [(6, vi (to + 1)), (4, vi sp), (5, vi fm), (0, vr X 60), (1, vr X 1), (2, vi de), (3, vi n)]) 2 dX5_walk_65 rfl rfl (by decide) rfl ?_
      refine g_goto (tgt := 46) dX5_walk_68 rfl ?_
      refine g_sub [1, 2, 0, 3, 4, 5, 6] rfl ?_
      exact ih _ (by omega) sp fm (to + 1) M3 iM3 fM3 q1_2_M3 (by omega) (by omega) (by omega) (by omega) (by omega) (by omega) (by omega) (by omega) (by omega) rfl
set_option maxHeartbeats 4000000 in
set_option maxRecDepth 100000 in
theorem l_X5_walk_37 (X : Cx) (M : Mm) (hi : IC M) (de : Int) (hde : inI de) (n : Int) (hn : inI n) (hd2 : 0 ≤ de ∧ de ≤ 3) (hst : ∀ (M : Mm) (_ : IC M) (sp fm to : Int), inI sp → inI fm → inI to → de ≤ 2 → 0 ≤ sp → sp < M 1 2 → Con X (7 + 2 * (3 - de).toNat) yX5_step cX5_step 9 none [vr X 60, vr X 1, vi de, vi n, vi sp, vi fm, vi to] M (Qv (fun M1 => IC M1 ∧ Fr (fun c => 60 ≤ c ∧ c ≤ 83) M M1))) (n25 : Nat) (ihO : ∀ mO : Nat, mO < n25 → ∀ (sp : Int) (M1 : Mm) (ic1 : IC M1) (fr1 : Fr (fun c => 60 ≤ c ∧ c ≤ 83) M M1) (q1_2 : (M1 1 2 = M 1 2)) (hde2 : de ≤ 2) (a0 : 0 ≤ sp) (a1 : sp ≤ 3), (3 - sp).toNat = mO → G X (8 + 2 * (3 - de).toNat) RX5 cX5_walk 7 none (Qv (fun M1 => IC M1 ∧ Fr (fun c => 60 ≤ c ∧ c ≤ 83) M M1)) 25 [(4, vi sp), (0, vr X 60), (1, vr X 1), (2, vi de), (3, vi n)] [] M1) : ∀ (kk : Nat) (sp : Int) (fm : Int) (M1 : Mm) (ic1 : IC M1) (fr1 : Fr (fun c => 60 ≤ c ∧ c ≤ 83) M M1) (q1_2 : (M1 1 2 = M 1 2)) (hde2 : de ≤ 2) (a0 : 0 ≤ sp) (a1 : sp < M 1 2) (aO : n25 = (3 - sp).toNat) (b0 : 0 ≤ fm) (b1 : fm ≤ 3), (3 - fm).toNat = kk → G X (8 + 2 * (3 - de).toNat) RX5 cX5_walk 7 none (Qv (fun M1 => IC M1 ∧ Fr (fun c => 60 ≤ c ∧ c ≤ 83) M M1)) 37 [(4, vi sp), (5, vi fm), (0, vr X 60), (1, vr X 1), (2, vi de), (3, vi n)] [] M1 := by
  intro kk
  induction kk using Nat.strongRecOn with
  | ind kk ih =>
    intro sp fm M1 ic1 fr1 q1_2 hde2 a0 a1 aO b0 b1 hmes
    have hs3 := hi.2.1.1.1
    have hs4 := q1_2
    refine g_iload (pc' := 39) 1 dX5_walk_37 rfl rfl ?_
    refine g_iconst (pc' := 40) dX5_walk_39 rfl ?_
    refine g_ic_ge (pc' := 43) (tgt := 77) ⟨by omega, by omega⟩ (by decide) dX5_walk_40 rfl rfl (fun c1 => ?_) (fun c1 => ?_)
    · refine g_iinc (pc' := 80) (L' := [(4, vi (sp + 1)), (5, vi fm), (0, vr X 60), (1, vr X 1), (2, vi de), (3, vi n)]) 0 dX5_walk_77 rfl rfl (by decide) rfl ?_
      refine g_goto (tgt := 25) dX5_walk_80 rfl ?_
      refine g_sub [0, 2, 3, 4, 5] rfl ?_
      exact ihO _ (by omega) (sp + 1) M1 ic1 fr1 q1_2 (by omega) (by omega) (by omega) rfl
    · refine g_iconst (pc' := 44) dX5_walk_43 rfl ?_
      refine g_istore (pc' := 46) (L' := [(6, vi 0), (4, vi sp), (5, vi fm), (0, vr X 60), (1, vr X 1), (2, vi de), (3, vi n)]) dX5_walk_44 rfl (by decide) rfl ?_
      refine g_sub [1, 2, 0, 3, 4, 5, 6] rfl ?_
      exact l_X5_walk_46 X M hi de hde n hn hd2 hst n25 kk ih _ sp fm 0 M1 ic1 fr1 q1_2 (by omega) (by omega) (by omega) (by omega) (by omega) (by omega) (by omega) (by omega) (by omega) rfl
set_option maxHeartbeats 4000000 in
set_option maxRecDepth 100000 in
theorem l_X5_walk_25 (X : Cx) (M : Mm) (hi : IC M) (de : Int) (hde : inI de) (n : Int) (hn : inI n) (hd2 : 0 ≤ de ∧ de ≤ 3) (hst : ∀ (M : Mm) (_ : IC M) (sp fm to : Int), inI sp → inI fm → inI to → de ≤ 2 → 0 ≤ sp → sp < M 1 2 → Con X (7 + 2 * (3 - de).toNat) yX5_step cX5_step 9 none [vr X 60, vr X 1, vi de, vi n, vi sp, vi fm, vi to] M (Qv (fun M1 => IC M1 ∧ Fr (fun c => 60 ≤ c ∧ c ≤ 83) M M1))) : ∀ (kk : Nat) (sp : Int) (M1 : Mm) (ic1 : IC M1) (fr1 : Fr (fun c => 60 ≤ c ∧ c ≤ 83) M M1) (q1_2 : (M1 1 2 = M 1 2)) (hde2 : de ≤ 2) (a0 : 0 ≤ sp) (a1 : sp ≤ 3), (3 - sp).toNat = kk → G X (8 + 2 * (3 - de).toNat) RX5 cX5_walk 7 none (Qv (fun M1 => IC M1 ∧ Fr (fun c => 60 ≤ c ∧ c ≤ 83) M M1)) 25 [(4, vi sp), (0, vr X 60), (1, vr X 1), (2, vi de), (3, vi n)] [] M1 := by
  intro kk
  induction kk using Nat.strongRecOn with
  | ind kk ih =>
    intro sp M1 ic1 fr1 q1_2 hde2 a0 a1 hmes
    have hs3 := hi.2.1.1.1
    have hs4 := q1_2
    refine g_iload (pc' := 27) 0 dX5_walk_25 rfl rfl ?_
    refine g_aload_n (pc' := 28) 2 dX5_walk_27 rfl rfl ?_
    refine g_getI (pc' := 31) dX5_walk_28 rfl f_X5_67 rfl rfl (fun v1 ev1 rv1 => ?_)
    have bv1 : 0 ≤ v1 ∧ v1 ≤ 3 := by rw [ev1]; exact ic1.2.1.1.1
    have av1 : v1 = M 1 2 := ev1.trans q1_2
    refine g_ic_ge (pc' := 34) (tgt := 83) ⟨by omega, by omega⟩ rv1 dX5_walk_31 rfl rfl (fun c2 => ?_) (fun c2 => ?_)
    · refine g_vreturn dX5_walk_83 ?_
      exact ⟨ic1, fr1⟩
    · refine g_iconst (pc' := 35) dX5_walk_34 rfl ?_
      refine g_istore (pc' := 37) (L' := [(5, vi 0), (4, vi sp), (0, vr X 60), (1, vr X 1), (2, vi de), (3, vi n)]) dX5_walk_35 rfl (by decide) rfl ?_
      refine g_sub [1, 0, 2, 3, 4, 5] rfl ?_
      exact l_X5_walk_37 X M hi de hde n hn hd2 hst kk ih _ sp 0 M1 ic1 fr1 q1_2 (by omega) (by omega) (by omega) (by omega) (by omega) (by omega) rfl
set_option maxHeartbeats 4000000 in
set_option maxRecDepth 100000 in
theorem c_X5_walk (X : Cx) (M : Mm) (hi : IC M) (de : Int) (hde : inI de) (n : Int) (hn : inI n) (hd2 : 0 ≤ de ∧ de ≤ 3) (hst : ∀ (M : Mm) (_ : IC M) (sp fm to : Int), inI sp → inI fm → inI to → de ≤ 2 → 0 ≤ sp → sp < M 1 2 → Con X (7 + 2 * (3 - de).toNat) yX5_step cX5_step 9 none [vr X 60, vr X 1, vi de, vi n, vi sp, vi fm, vi to] M (Qv (fun M1 => IC M1 ∧ Fr (fun c => 60 ≤ c ∧ c ≤ 83) M M1))) : Con X (8 + 2 * (3 - de).toNat) yX5_walk cX5_walk 7 none [vr X 60, vr X 1, vi de, vi n] M (Qv (fun M1 => IC M1 ∧ Fr (fun c => 60 ≤ c ∧ c ≤ 83) M M1)) := by
  refine Con.ofG rfl (Nat.le_of_ble_eq_true rfl) ?_
  show G X (8 + 2 * (3 - de).toNat) RX5 cX5_walk 7 none (Qv (fun M1 => IC M1 ∧ Fr (fun c => 60 ≤ c ∧ c ≤ 83) M M1)) 0 [(0, vr X 60), (1, vr X 1), (2, vi de), (3, vi n)] [] M
  refine g_iload_n (pc' := 1) 2 dX5_walk_0 rfl rfl ?_
  refine g_iload_n (pc' := 2) 3 dX5_walk_1 rfl rfl ?_
  refine g_ic_ge (pc' := 5) (tgt := 10) hde hn dX5_walk_2 rfl rfl (fun c1 => ?_) (fun c1 => ?_)
  · refine g_aload_n (pc' := 11) 0 dX5_walk_10 rfl rfl ?_
    refine g_aload_n (pc' := 12) 1 dX5_walk_11 rfl rfl ?_
    refine g_aload_n (pc' := 13) 0 dX5_walk_12 rfl rfl ?_
    refine g_getR (pc' := 16) dX5_walk_13 rfl f_X5_11 rfl rfl ?_
    refine g_iload_n (pc' := 17) 2 dX5_walk_16 rfl rfl ?_
    refine g_aald (pc' := 18) (t := 2) (C := RX7) dX5_walk_17 rfl rfl (fun _ => rfl) (by omega) (by omega) ?_
    obtain ⟨k2, ek2⟩ : ∃ z : Nat, z = ([62, 67, 72, 77] : List Nat).getD de.toNat 0 := ⟨_, rfl⟩
    rw [← ek2]
    have hk2 : isT k2 := by rw [ek2]; exact (tbD de.toNat (by omega)).1
    have jk2 : k2 = 62 + 5 * de.toNat := by rw [ek2]; exact (tbD de.toNat (by omega)).2
    refine g_callVv (pc' := 21) (As := [vr X 1, vr X k2]) (b := 60) (S := []) dX5_walk_18 rfl m_X5_63 w_X5_judge (c_X5_judge X M hi k2 hk2 (by omega)) rfl ⟨_, _, _, rfl, rfl, rfl⟩ (by omega) (by decide) rfl (Nat.le_of_ble_eq_true rfl) (fun M4 q3 => ?_)
    obtain ⟨iM4, fM40⟩ := q3
    have fM4 : Fr (fun c => 60 ≤ c ∧ c ≤ 83) M M4 := Fr.tr Fr.rf fM40 fi_6
    have q1_2_M4 : (M4 1 2 = M 1 2) := (congrFun (fM40 1 (by first | decide | omega | (dsimp only; omega))) 2)
    refine g_vreturn dX5_walk_21 ?_
    exact ⟨iM4, fM4⟩
  · refine g_iload_n (pc' := 6) 2 dX5_walk_5 rfl rfl ?_
    refine g_iconst (pc' := 7) dX5_walk_6 rfl ?_
    refine g_ic_lt (pc' := 10) (tgt := 22) hde (by decide) dX5_walk_7 rfl rfl (fun c5 => ?_) (fun c5 => ?_)
    · refine g_iconst (pc' := 23) dX5_walk_22 rfl ?_
      refine g_istore (pc' := 25) (L' := [(4, vi 0), (0, vr X 60), (1, vr X 1), (2, vi de), (3, vi n)]) dX5_walk_23 rfl (by decide) rfl ?_
      refine g_sub [0, 1, 2, 3, 4] rfl ?_
      exact l_X5_walk_25 X M hi de hde n hn hd2 hst _ 0 M hi Fr.rf rfl (by omega) (by omega) (by omega) rfl
    · refine g_aload_n (pc' := 11) 0 dX5_walk_10 rfl rfl ?_
      refine g_aload_n (pc' := 12) 1 dX5_walk_11 rfl rfl ?_
      refine g_aload_n (pc' := 13) 0 dX5_walk_12 rfl rfl ?_
      refine g_getR (pc' := 16) dX5_walk_13 rfl f_X5_11 rfl rfl ?_
      refine g_iload_n (pc' := 17) 2 dX5_walk_16 rfl rfl ?_
      refine g_aald (pc' := 18) (t := 2) (C := RX7) dX5_walk_17 rfl rfl (fun _ => rfl) (by omega) (by omega) ?_
      obtain ⟨k6, ek6⟩ : ∃ z : Nat, z = ([62, 67, 72, 77] : List Nat).getD de.toNat 0 := ⟨_, rfl⟩
      rw [← ek6]
      have hk6 : isT k6 := by rw [ek6]; exact (tbD de.toNat (by omega)).1
      have jk6 : k6 = 62 + 5 * de.toNat := by rw [ek6]; exact (tbD de.toNat (by omega)).2
      refine g_callVv (pc' := 21) (As := [vr X 1, vr X k6]) (b := 60) (S := []) dX5_walk_18 rfl m_X5_63 w_X5_judge (c_X5_judge X M hi k6 hk6 (by omega)) rfl ⟨_, _, _, rfl, rfl, rfl⟩ (by omega) (by decide) rfl (Nat.le_of_ble_eq_true rfl) (fun M8 q7 => ?_)
      obtain ⟨iM8, fM80⟩ := q7
      have fM8 : Fr (fun c => 60 ≤ c ∧ c ≤ 83) M M8 := Fr.tr Fr.rf fM80 fi_6
      have q1_2_M8 : (M8 1 2 = M 1 2) := (congrFun (fM80 1 (by first | decide | omega | (dsimp only; omega))) 2)
      refine g_vreturn dX5_walk_21 ?_
      exact ⟨iM8, fM8⟩
theorem r_walk (X : Cx) : ∀ (k : Nat) (de n : Int), inI n → 0 ≤ de → de ≤ 3 → (3 - de).toNat = k → ∀ (M : Mm) (_ : IC M), Con X (8 + 2 * (3 - de).toNat) yX5_walk cX5_walk 7 none [vr X 60, vr X 1, vi de, vi n] M (Qv (fun M1 => IC M1 ∧ Fr (fun c => 60 ≤ c ∧ c ≤ 83) M M1)) := by
  intro k
  induction k using Nat.strongRecOn with
  | ind k ih =>
    intro de n hn h0 h3 hk M hi
    have hde : inI de := ⟨by omega, by omega⟩
    exact c_X5_walk X M hi de hde n hn ⟨h0, h3⟩ (fun M hi sp fm to h1 h2 h3 h4 h5 h6 => c_X5_step X M hi de hde n hn sp h1 fm h2 to h3 ⟨by omega, by omega⟩ ⟨h5, h6⟩ (fun M hi => ih _ (by omega) (de + 1) n hn (by omega) (by omega) rfl M hi))
set_option maxHeartbeats 4000000 in
set_option maxRecDepth 100000 in
theorem l_X5_fewest_48 (X : Cx) (M : Mm) (hi : IC M) (g : Int) (hg : inI g) (k : Int) (hk : inI k) (x : Int) (hx : inI x) (y : Int) (hy : inI y) : ∀ (kk : Nat) (i : Int) (M1 : Mm) (ic1 : IC M1) (fr1 : Fr (fun c => 60 ≤ c ∧ c ≤ 83) M M1) (h0 : 0 ≤ i) (h1 : i ≤ 4), (4 - i).toNat = kk → G X 15 RX5 cX5_fewest 7 (some .int) (Qi (fun r M1 => IC M1 ∧ Fr (fun c => 60 ≤ c ∧ c ≤ 83) M M1 ∧ (inI r))) 48 [(6, vi i), (0, vr X 60), (1, vr X 1)] [] M1 := by
  intro kk
  induction kk using Nat.strongRecOn with
  | ind kk ih =>
    intro i M1 ic1 fr1 h0 h1 hmes
    refine g_iload (pc' := 50) 0 dX5_fewest_48 rfl rfl ?_
    refine g_iconst (pc' := 51) dX5_fewest_50 rfl ?_
    refine g_ic_gt (pc' := 54) (tgt := 78) ⟨by omega, by omega⟩ (by decide) dX5_fewest_51 rfl rfl (fun c1 => ?_) (fun c1 => ?_)
    · refine g_iconst (pc' := 79) dX5_fewest_78 rfl ?_
      refine g_ireturn dX5_fewest_79 ?_
      exact ⟨ic1, fr1, by omega⟩
    · refine g_aload_n (pc' := 55) 1 dX5_fewest_54 rfl rfl ?_
      refine g_aload_n (pc' := 56) 2 dX5_fewest_55 rfl rfl ?_
      refine g_iconst (pc' := 57) dX5_fewest_56 rfl ?_
      refine g_iload (pc' := 59) 0 dX5_fewest_57 rfl rfl ?_
      refine g_callVv (pc' := 62) (As := [vr X 1, vi 0, vi i]) (b := 60) (S := []) dX5_fewest_59 rfl m_X5_55 w_X5_walk (r_walk X _ 0 i ⟨by omega, by omega⟩ (by omega) (by omega) rfl M1 ic1) rfl ⟨_, _, _, rfl, rfl, rfl⟩ (by decide) (by decide) rfl (Nat.le_of_ble_eq_true rfl) (fun M3 q2 => ?_)
      obtain ⟨iM3, fM30⟩ := q2
      have fM3 : Fr (fun c => 60 ≤ c ∧ c ≤ 83) M M3 := Fr.tr fr1 fM30 (fun _ z => z)
      refine g_aload_n (pc' := 63) 1 dX5_fewest_62 rfl rfl ?_
      refine g_getI (pc' := 66) dX5_fewest_63 rfl f_X5_42 rfl rfl (fun v4 ev4 rv4 => ?_)
      refine g_if_le (pc' := 69) (tgt := 72) rv4 dX5_fewest_66 rfl rfl (fun c5 => ?_) (fun c5 => ?_)
      · refine g_iinc (pc' := 75) (L' := [(6, vi (i + 1)), (0, vr X 60), (1, vr X 1)]) 0 dX5_fewest_72 rfl rfl (by decide) rfl ?_
        refine g_goto (tgt := 48) dX5_fewest_75 rfl ?_
        refine g_sub [0, 1, 2] rfl ?_
        exact ih _ (by omega) (i + 1) M3 iM3 fM3 (by omega) (by omega) rfl
      · refine g_iload (pc' := 71) 0 dX5_fewest_69 rfl rfl ?_
        refine g_ireturn dX5_fewest_71 ?_
        exact ⟨iM3, fM3, by omega⟩
set_option maxHeartbeats 4000000 in
set_option maxRecDepth 100000 in
theorem c_X5_fewest (X : Cx) (M : Mm) (hi : IC M) (g : Int) (hg : inI g) (k : Int) (hk : inI k) (x : Int) (hx : inI x) (y : Int) (hy : inI y) : Con X 15 yX5_fewest cX5_fewest 7 (some .int) [vr X 60, vr X 1, vi g, vi k, vi x, vi y] M (Qi (fun r M1 => IC M1 ∧ Fr (fun c => 60 ≤ c ∧ c ≤ 83) M M1 ∧ (inI r))) := by
  refine Con.ofG rfl (Nat.le_of_ble_eq_true rfl) ?_
  show G X 15 RX5 cX5_fewest 7 (some .int) (Qi (fun r M1 => IC M1 ∧ Fr (fun c => 60 ≤ c ∧ c ≤ 83) M M1 ∧ (inI r))) 0 [(0, vr X 60), (1, vr X 1), (2, vi g), (3, vi k), (4, vi x), (5, vi y)] [] M
  refine g_aload_n (pc' := 1) 0 dX5_fewest_0 rfl rfl ?_
  refine g_iconst (pc' := 2) dX5_fewest_1 rfl ?_
  refine g_putZ (pc' := 5) dX5_fewest_2 rfl p_X5_25 rfl rfl (by omega) (fun M1 hM1 => ?_)
  have iM1 : IC M1 := IC.wr hi hM1 (by unfold okw isT; first | decide | omega)
  have fM1 : Fr (fun c => 60 ≤ c ∧ c ≤ 83) M M1 := Fr.wr Fr.rf hM1 (by first | decide | omega | (dsimp only; omega))
  have xM1_60_3 : M1 60 3 = 1 := by rw [hM1]; exact mu_at _ _ _ _
  refine g_aload_n (pc' := 6) 0 dX5_fewest_5 rfl rfl ?_
  refine g_iload_n (pc' := 7) 2 dX5_fewest_6 rfl rfl ?_
  refine g_putI (pc' := 10) dX5_fewest_7 rfl p_X5_29 rfl rfl hg (fun M2 hM2 => ?_)
  have iM2 : IC M2 := IC.wr iM1 hM2 (by unfold okw isT; first | decide | omega)
  have fM2 : Fr (fun c => 60 ≤ c ∧ c ≤ 83) M M2 := Fr.wr fM1 hM2 (by first | decide | omega | (dsimp only; omega))
  have xM2_60_3 : M2 60 3 = 1 := (show M2 60 3 = M1 60 3 by rw [hM2]; exact mu_ne _ _ (by first | decide | omega)).trans xM1_60_3
  have xM2_60_4 : M2 60 4 = g := by rw [hM2]; exact mu_at _ _ _ _
  refine g_aload_n (pc' := 11) 0 dX5_fewest_10 rfl rfl ?_
  refine g_iload_n (pc' := 12) 3 dX5_fewest_11 rfl rfl ?_
  refine g_putI (pc' := 15) dX5_fewest_12 rfl p_X5_33 rfl rfl hk (fun M3 hM3 => ?_)
  have iM3 : IC M3 := IC.wr iM2 hM3 (by unfold okw isT; first | decide | omega)
  have fM3 : Fr (fun c => 60 ≤ c ∧ c ≤ 83) M M3 := Fr.wr fM2 hM3 (by first | decide | omega | (dsimp only; omega))
  have xM3_60_3 : M3 60 3 = 1 := (show M3 60 3 = M2 60 3 by rw [hM3]; exact mu_ne _ _ (by first | decide | omega)).trans xM2_60_3
  have xM3_60_4 : M3 60 4 = g := (show M3 60 4 = M2 60 4 by rw [hM3]; exact mu_ne _ _ (by first | decide | omega)).trans xM2_60_4
  have xM3_60_5 : M3 60 5 = k := by rw [hM3]; exact mu_at _ _ _ _
  refine g_aload_n (pc' := 16) 0 dX5_fewest_15 rfl rfl ?_
  refine g_iload (pc' := 18) 4 dX5_fewest_16 rfl rfl ?_
  refine g_putI (pc' := 21) dX5_fewest_18 rfl p_X5_36 rfl rfl hx (fun M4 hM4 => ?_)
  have iM4 : IC M4 := IC.wr iM3 hM4 (by unfold okw isT; first | decide | omega)
  have fM4 : Fr (fun c => 60 ≤ c ∧ c ≤ 83) M M4 := Fr.wr fM3 hM4 (by first | decide | omega | (dsimp only; omega))
  have xM4_60_3 : M4 60 3 = 1 := (show M4 60 3 = M3 60 3 by rw [hM4]; exact mu_ne _ _ (by first | decide | omega)).trans xM3_60_3
  have xM4_60_4 : M4 60 4 = g := (show M4 60 4 = M3 60 4 by rw [hM4]; exact mu_ne _ _ (by first | decide | omega)).trans xM3_60_4
  have xM4_60_5 : M4 60 5 = k := (show M4 60 5 = M3 60 5 by rw [hM4]; exact mu_ne _ _ (by first | decide | omega)).trans xM3_60_5
  have xM4_60_6 : M4 60 6 = x := by rw [hM4]; exact mu_at _ _ _ _
  refine g_aload_n (pc' := 22) 0 dX5_fewest_21 rfl rfl ?_
  refine g_iload (pc' := 24) 5 dX5_fewest_22 rfl rfl ?_
  refine g_putI (pc' := 27) dX5_fewest_24 rfl p_X5_39 rfl rfl hy (fun M5 hM5 => ?_)
  have iM5 : IC M5 := IC.wr iM4 hM5 (by unfold okw isT; first | decide | omega)
  have fM5 : Fr (fun c => 60 ≤ c ∧ c ≤ 83) M M5 := Fr.wr fM4 hM5 (by first | decide | omega | (dsimp only; omega))
  have xM5_60_3 : M5 60 3 = 1 := (show M5 60 3 = M4 60 3 by rw [hM5]; exact mu_ne _ _ (by first | decide | omega)).trans xM4_60_3
  have xM5_60_4 : M5 60 4 = g := (show M5 60 4 = M4 60 4 by rw [hM5]; exact mu_ne _ _ (by first | decide | omega)).trans xM4_60_4
  have xM5_60_5 : M5 60 5 = k := (show M5 60 5 = M4 60 5 by rw [hM5]; exact mu_ne _ _ (by first | decide | omega)).trans xM4_60_5
  have xM5_60_6 : M5 60 6 = x := (show M5 60 6 = M4 60 6 by rw [hM5]; exact mu_ne _ _ (by first | decide | omega)).trans xM4_60_6
  have xM5_60_7 : M5 60 7 = y := by rw [hM5]; exact mu_at _ _ _ _
  refine g_aload_n (pc' := 28) 0 dX5_fewest_27 rfl rfl ?_
  refine g_iconst (pc' := 29) dX5_fewest_28 rfl ?_
  refine g_putI (pc' := 32) dX5_fewest_29 rfl p_X5_42 rfl rfl (by decide) (fun M6 hM6 => ?_)
  have iM6 : IC M6 := IC.wr iM5 hM6 (by unfold okw isT; first | decide | omega)
  have fM6 : Fr (fun c => 60 ≤ c ∧ c ≤ 83) M M6 := Fr.wr fM5 hM6 (by first | decide | omega | (dsimp only; omega))
  have xM6_60_3 : M6 60 3 = 1 := (show M6 60 3 = M5 60 3 by rw [hM6]; exact mu_ne _ _ (by first | decide | omega)).trans xM5_60_3
  have xM6_60_4 : M6 60 4 = g := (show M6 60 4 = M5 60 4 by rw [hM6]; exact mu_ne _ _ (by first | decide | omega)).trans xM5_60_4
  have xM6_60_5 : M6 60 5 = k := (show M6 60 5 = M5 60 5 by rw [hM6]; exact mu_ne _ _ (by first | decide | omega)).trans xM5_60_5
  have xM6_60_6 : M6 60 6 = x := (show M6 60 6 = M5 60 6 by rw [hM6]; exact mu_ne _ _ (by first | decide | omega)).trans xM5_60_6
  have xM6_60_7 : M6 60 7 = y := (show M6 60 7 = M5 60 7 by rw [hM6]; exact mu_ne _ _ (by first | decide | omega)).trans xM5_60_7
  have xM6_60_8 : M6 60 8 = 0 := by rw [hM6]; exact mu_at _ _ _ _
  refine g_aload_n (pc' := 33) 0 dX5_fewest_32 rfl rfl ?_
  refine g_getR (pc' := 36) dX5_fewest_33 rfl f_X5_11 rfl rfl ?_
  refine g_iconst (pc' := 37) dX5_fewest_36 rfl ?_
  refine g_aald (pc' := 38) (t := 2) (C := RX7) dX5_fewest_37 rfl rfl (fun _ => rfl) (by decide) (by decide) ?_
  refine g_aload_n (pc' := 39) 1 dX5_fewest_38 rfl rfl ?_
  refine g_getR (pc' := 42) dX5_fewest_39 rfl f_X5_45 rfl rfl ?_
  refine g_callVv (pc' := 45) (As := [vr X 2]) (b := 62) (S := []) dX5_fewest_42 rfl m_X5_51 w_X7_copyFrom (c_X7_copyFrom X M6 62 isT_62 (iM6.1 _ isT_62) 2 isT_2 (iM6.1 _ isT_2) (by decide) (isT.apart isT_62 isT_2 (by decide))) rfl ⟨_, _, _, rfl, rfl, rfl⟩ (by decide) (by decide) rfl (Nat.le_of_ble_eq_true rfl) (fun M8 q7 => ?_)
  obtain ⟨kM8, fM80, gM80⟩ := q7
  have iM8 : IC M8 := IC.ofT iM6 isT_62 fM80 kM8
  have fM8 : Fr (fun c => 60 ≤ c ∧ c ≤ 83) M M8 := Fr.tr fM6 fM80 (fun c z => by unfold inT at z; first | omega | (dsimp only; omega))
  have xM8_60_3 : M8 60 3 = 1 := (congrFun (fM80 60 (by unfold inT; first | decide | omega)) 3).trans xM6_60_3
  have xM8_60_4 : M8 60 4 = g := (congrFun (fM80 60 (by unfold inT; first | decide | omega)) 4).trans xM6_60_4
  have xM8_60_5 : M8 60 5 = k := (congrFun (fM80 60 (by unfold inT; first | decide | omega)) 5).trans xM6_60_5
  have xM8_60_6 : M8 60 6 = x := (congrFun (fM80 60 (by unfold inT; first | decide | omega)) 6).trans xM6_60_6
  have xM8_60_7 : M8 60 7 = y := (congrFun (fM80 60 (by unfold inT; first | decide | omega)) 7).trans xM6_60_7
  have xM8_60_8 : M8 60 8 = 0 := (congrFun (fM80 60 (by unfold inT; first | decide | omega)) 8).trans xM6_60_8
  refine g_iconst (pc' := 46) dX5_fewest_45 rfl ?_
  refine g_istore (pc' := 48) (L' := [(6, vi 0), (0, vr X 60), (1, vr X 1), (2, vi g), (3, vi k), (4, vi x), (5, vi y)]) dX5_fewest_46 rfl (by decide) rfl ?_
  refine g_sub [0, 1, 2] rfl ?_
  exact l_X5_fewest_48 X M hi g hg k hk x hx y hy _ 0 M8 iM8 fM8 (by omega) (by omega) rfl
set_option maxHeartbeats 4000000 in
set_option maxRecDepth 100000 in
theorem c_X5_fitting (X : Cx) (M : Mm) (hi : IC M) (n : Int) (hn : inI n) : Con X 15 yX5_fitting cX5_fitting 3 (some .int) [vr X 60, vr X 1, vi n] M (Qi (fun r M1 => IC M1 ∧ Fr (fun c => 60 ≤ c ∧ c ≤ 83) M M1 ∧ (inI r))) := by
  refine Con.ofG rfl (Nat.le_of_ble_eq_true rfl) ?_
  show G X 15 RX5 cX5_fitting 3 (some .int) (Qi (fun r M1 => IC M1 ∧ Fr (fun c => 60 ≤ c ∧ c ≤ 83) M M1 ∧ (inI r))) 0 [(0, vr X 60), (1, vr X 1), (2, vi n)] [] M
  refine g_aload_n (pc' := 1) 0 dX5_fitting_0 rfl rfl ?_
  refine g_iconst (pc' := 2) dX5_fitting_1 rfl ?_
  refine g_putZ (pc' := 5) dX5_fitting_2 rfl p_X5_25 rfl rfl (by omega) (fun M1 hM1 => ?_)
  have iM1 : IC M1 := IC.wr hi hM1 (by unfold okw isT; first | decide | omega)
  have fM1 : Fr (fun c => 60 ≤ c ∧ c ≤ 83) M M1 := Fr.wr Fr.rf hM1 (by first | decide | omega | (dsimp only; omega))
  have xM1_60_3 : M1 60 3 = 0 := by rw [hM1]; exact mu_at _ _ _ _
  refine g_aload_n (pc' := 6) 0 dX5_fitting_5 rfl rfl ?_
  refine g_iconst (pc' := 7) dX5_fitting_6 rfl ?_
  refine g_putI (pc' := 10) dX5_fitting_7 rfl p_X5_42 rfl rfl (by decide) (fun M2 hM2 => ?_)
  have iM2 : IC M2 := IC.wr iM1 hM2 (by unfold okw isT; first | decide | omega)
  have fM2 : Fr (fun c => 60 ≤ c ∧ c ≤ 83) M M2 := Fr.wr fM1 hM2 (by first | decide | omega | (dsimp only; omega))
  have xM2_60_3 : M2 60 3 = 0 := (show M2 60 3 = M1 60 3 by rw [hM2]; exact mu_ne _ _ (by first | decide | omega)).trans xM1_60_3
  have xM2_60_8 : M2 60 8 = 0 := by rw [hM2]; exact mu_at _ _ _ _
  refine g_aload_n (pc' := 11) 0 dX5_fitting_10 rfl rfl ?_
  refine g_getR (pc' := 14) dX5_fitting_11 rfl f_X5_11 rfl rfl ?_
  refine g_iconst (pc' := 15) dX5_fitting_14 rfl ?_
  refine g_aald (pc' := 16) (t := 2) (C := RX7) dX5_fitting_15 rfl rfl (fun _ => rfl) (by decide) (by decide) ?_
  refine g_aload_n (pc' := 17) 1 dX5_fitting_16 rfl rfl ?_
  refine g_getR (pc' := 20) dX5_fitting_17 rfl f_X5_45 rfl rfl ?_
  refine g_callVv (pc' := 23) (As := [vr X 2]) (b := 62) (S := []) dX5_fitting_20 rfl m_X5_51 w_X7_copyFrom (c_X7_copyFrom X M2 62 isT_62 (iM2.1 _ isT_62) 2 isT_2 (iM2.1 _ isT_2) (by decide) (isT.apart isT_62 isT_2 (by decide))) rfl ⟨_, _, _, rfl, rfl, rfl⟩ (by decide) (by decide) rfl (Nat.le_of_ble_eq_true rfl) (fun M4 q3 => ?_)
  obtain ⟨kM4, fM40, gM40⟩ := q3
  have iM4 : IC M4 := IC.ofT iM2 isT_62 fM40 kM4
  have fM4 : Fr (fun c => 60 ≤ c ∧ c ≤ 83) M M4 := Fr.tr fM2 fM40 (fun c z => by unfold inT at z; first | omega | (dsimp only; omega))
  have xM4_60_3 : M4 60 3 = 0 := (congrFun (fM40 60 (by unfold inT; first | decide | omega)) 3).trans xM2_60_3
  have xM4_60_8 : M4 60 8 = 0 := (congrFun (fM40 60 (by unfold inT; first | decide | omega)) 8).trans xM2_60_8
  refine g_aload_n (pc' := 24) 0 dX5_fitting_23 rfl rfl ?_
  refine g_aload_n (pc' := 25) 1 dX5_fitting_24 rfl rfl ?_
  refine g_iconst (pc' := 26) dX5_fitting_25 rfl ?_
  refine g_iload_n (pc' := 27) 2 dX5_fitting_26 rfl rfl ?_
  refine g_callVv (pc' := 30) (As := [vr X 1, vi 0, vi n]) (b := 60) (S := []) dX5_fitting_27 rfl m_X5_55 w_X5_walk (r_walk X _ 0 n hn (by omega) (by omega) rfl M4 iM4) rfl ⟨_, _, _, rfl, rfl, rfl⟩ (by decide) (by decide) rfl (Nat.le_of_ble_eq_true rfl) (fun M6 q5 => ?_)
  obtain ⟨iM6, fM60⟩ := q5
  have fM6 : Fr (fun c => 60 ≤ c ∧ c ≤ 83) M M6 := Fr.tr fM4 fM60 (fun _ z => z)
  refine g_aload_n (pc' := 31) 0 dX5_fitting_30 rfl rfl ?_
  refine g_getI (pc' := 34) dX5_fitting_31 rfl f_X5_42 rfl rfl (fun v7 ev7 rv7 => ?_)
  refine g_ireturn dX5_fitting_34 ?_
  exact ⟨iM6, fM6, by omega⟩
set_option maxHeartbeats 4000000 in
set_option maxRecDepth 100000 in
theorem c_X1_canBe (X : Cx) (M : Mm) (hi : IC M) (w : Int) (hw : inI w) (a : Int) (ha : inI a) (b : Int) (hb : inI b) (hw6 : 0 ≤ w ∧ w ≤ 6) : Con X 1 yX1_canBe cX1_canBe 6 (some .boolean) [vr X 84, vi w, vi a, vi b] M (Qi (fun r M1 => M1 = M ∧ (r = 0 ∨ r = 1))) := by
  refine Con.ofG rfl (Nat.le_of_ble_eq_true rfl) ?_
  show G X 1 RX1 cX1_canBe 6 (some .boolean) (Qi (fun r M1 => M1 = M ∧ (r = 0 ∨ r = 1))) 0 [(0, vr X 84), (1, vi w), (2, vi a), (3, vi b)] [] M
  refine g_iload_n (pc' := 1) 2 dX1_canBe_0 rfl rfl ?_
  refine g_aload_n (pc' := 2) 0 dX1_canBe_1 rfl rfl ?_
  refine g_getR (pc' := 5) dX1_canBe_2 rfl f_X1_21 rfl rfl ?_
  refine g_iload_n (pc' := 6) 1 dX1_canBe_5 rfl rfl ?_
  refine g_iald (pc' := 7) dX1_canBe_6 rfl rfl (by omega) (by omega) (fun v1 ev1 rv1 => ?_)
  refine g_imul (pc' := 8) dX1_canBe_7 rfl ?_
  refine g_nrmI (fun n2 rn2 en2 => ?_)
  have bn2 : (-2147483648 ≤ a * v1 ∧ a * v1 ≤ 2147483647) → n2 = a * v1 := fun h => en2.trans (bm32 h)
  refine g_istore (pc' := 10) (L' := [(4, vi n2), (0, vr X 84), (1, vi w), (2, vi a), (3, vi b)]) dX1_canBe_8 rfl (by decide) rfl ?_
  refine g_iload_n (pc' := 11) 3 dX1_canBe_10 rfl rfl ?_
  refine g_aload_n (pc' := 12) 1 dX1_canBe_11 rfl rfl ?_
  refine g_getR (pc' := 15) dX1_canBe_12 rfl f_X1_24 rfl rfl ?_
  refine g_iload_n (pc' := 16) 2 dX1_canBe_15 rfl rfl ?_
  refine g_iald (pc' := 17) dX1_canBe_16 rfl rfl (by omega) (by omega) (fun v3 ev3 rv3 => ?_)
  refine g_imul (pc' := 18) dX1_canBe_17 rfl ?_
  refine g_nrmI (fun n4 rn4 en4 => ?_)
  have bn4 : (-2147483648 ≤ a * v3 ∧ a * v3 ≤ 2147483647) → n4 = a * v3 := fun h => en4.trans (bm32 h)
  refine g_istore (pc' := 20) (L' := [(5, vi n4), (4, vi n2), (0, vr X 84), (1, vi w), (2, vi a), (3, vi b)]) dX1_canBe_18 rfl (by decide) rfl ?_
  refine g_iload_n (pc' := 21) 4 dX1_canBe_20 rfl rfl ?_
  refine g_aload_n (pc' := 22) 2 dX1_canBe_21 rfl rfl ?_
  refine g_getR (pc' := 25) dX1_canBe_22 rfl f_X1_18 rfl rfl ?_
  refine g_iload_n (pc' := 26) 3 dX1_canBe_25 rfl rfl ?_
  refine g_iald (pc' := 27) dX1_canBe_26 rfl rfl (by omega) (by omega) (fun v5 ev5 rv5 => ?_)
  refine g_ic_gt (pc' := 30) (tgt := 45) ha rv5 dX1_canBe_27 rfl rfl (fun c6 => ?_) (fun c6 => ?_)
  · refine g_iconst (pc' := 46) dX1_canBe_45 rfl ?_
    refine g_zreturn dX1_canBe_46 (by omega) ?_
    exact ⟨rfl, by omega⟩
  · refine g_iload_n (pc' := 31) 5 dX1_canBe_30 rfl rfl ?_
    refine g_iload (pc' := 33) 1 dX1_canBe_31 rfl rfl ?_
    refine g_iload (pc' := 35) 0 dX1_canBe_33 rfl rfl ?_
    refine g_callSip (pc' := 38) (As := [vi b, vi n2, vi n4]) (S := []) dX1_canBe_35 rfl m_X1_72 w_X9_isWithin (c_X9_isWithin X M b hb n2 rn2 n4 rn4) rfl (by decide) (by decide) rfl (Nat.le_of_ble_eq_true rfl) (fun z8 q7 => ?_)
    refine g_if_eq (pc' := 41) (tgt := 45) ⟨by omega, by omega⟩ dX1_canBe_38 rfl rfl (fun c9 => ?_) (fun c9 => ?_)
    · replace q7 := q7.resolve_left (fun h => absurd (c9.symm.trans h.1) (by decide))
      refine g_iconst (pc' := 46) dX1_canBe_45 rfl ?_
      refine g_zreturn dX1_canBe_46 (by omega) ?_
      exact ⟨rfl, by omega⟩
    · replace q7 := q7.resolve_right (fun h => c9 h.1)
      refine g_iconst (pc' := 42) dX1_canBe_41 rfl ?_
      refine g_goto (tgt := 46) dX1_canBe_42 rfl ?_
      refine g_zreturn dX1_canBe_46 (by omega) ?_
      exact ⟨rfl, by omega⟩
set_option maxHeartbeats 4000000 in
set_option maxRecDepth 100000 in
theorem c_X1_canBeCheaper (X : Cx) (M : Mm) (hi : IC M) (w : Int) (hw : inI w) (a : Int) (ha : inI a) (b : Int) (hb : inI b) (hw6 : 0 ≤ w ∧ w ≤ 6) : Con X 1 yX1_canBeCheaper cX1_canBeCheaper 4 (some .boolean) [vr X 84, vi w, vi a, vi b] M (Qi (fun r M1 => M1 = M ∧ (r = 0 ∨ r = 1))) := by
  refine Con.ofG rfl (Nat.le_of_ble_eq_true rfl) ?_
  show G X 1 RX1 cX1_canBeCheaper 4 (some .boolean) (Qi (fun r M1 => M1 = M ∧ (r = 0 ∨ r = 1))) 0 [(0, vr X 84), (1, vi w), (2, vi a), (3, vi b)] [] M
  refine g_aload_n (pc' := 1) 0 dX1_canBeCheaper_0 rfl rfl ?_
  refine g_getI (pc' := 4) dX1_canBeCheaper_1 rfl f_X1_30 rfl rfl (fun v1 ev1 rv1 => ?_)
  refine g_iconst (pc' := 5) dX1_canBeCheaper_4 rfl ?_
  refine g_ic_eq (pc' := 8) (tgt := 25) rv1 (by decide) dX1_canBeCheaper_5 rfl rfl (fun c2 => ?_) (fun c2 => ?_)
  · refine g_iconst (pc' := 26) dX1_canBeCheaper_25 rfl ?_
    refine g_goto (tgt := 30) dX1_canBeCheaper_26 rfl ?_
    refine g_zreturn dX1_canBeCheaper_30 (by omega) ?_
    exact ⟨rfl, by omega⟩
  · refine g_iload_n (pc' := 9) 3 dX1_canBeCheaper_8 rfl rfl ?_
    refine g_iload_n (pc' := 10) 2 dX1_canBeCheaper_9 rfl rfl ?_
    refine g_aload_n (pc' := 11) 0 dX1_canBeCheaper_10 rfl rfl ?_
    refine g_getR (pc' := 14) dX1_canBeCheaper_11 rfl f_X1_27 rfl rfl ?_
    refine g_iload_n (pc' := 15) 1 dX1_canBeCheaper_14 rfl rfl ?_
    refine g_iald (pc' := 16) dX1_canBeCheaper_15 rfl rfl (by omega) (by omega) (fun v3 ev3 rv3 => ?_)
    refine g_imul (pc' := 17) dX1_canBeCheaper_16 rfl ?_
    refine g_iadd (pc' := 18) dX1_canBeCheaper_17 rfl ?_
    refine g_nrmI (fun n4 rn4 en4 => ?_)
    have bn4 : (-2147483648 ≤ b + (a * v3) ∧ b + (a * v3) ≤ 2147483647) → n4 = b + (a * v3) := fun h => en4.trans (bm32 h)
    refine g_aload_n (pc' := 19) 0 dX1_canBeCheaper_18 rfl rfl ?_
    refine g_getI (pc' := 22) dX1_canBeCheaper_19 rfl f_X1_30 rfl rfl (fun v5 ev5 rv5 => ?_)
    obtain rfl : v1 = v5 := ev1.trans ev5.symm
    refine g_ic_ge (pc' := 25) (tgt := 29) rn4 rv1 dX1_canBeCheaper_22 rfl rfl (fun c6 => ?_) (fun c6 => ?_)
    · refine g_iconst (pc' := 30) dX1_canBeCheaper_29 rfl ?_
      refine g_zreturn dX1_canBeCheaper_30 (by omega) ?_
      exact ⟨rfl, by omega⟩
    · refine g_iconst (pc' := 26) dX1_canBeCheaper_25 rfl ?_
      refine g_goto (tgt := 30) dX1_canBeCheaper_26 rfl ?_
      refine g_zreturn dX1_canBeCheaper_30 (by omega) ?_
      exact ⟨rfl, by omega⟩
set_option maxHeartbeats 4000000 in
set_option maxRecDepth 100000 in
theorem l_X1_lookBehind_44 (X : Cx) (M : Mm) (hi : IC M) : ∀ (kk : Nat) (i : Int) (M1 : Mm) (ic1 : IC M1) (fr1 : Fr (fun c => 87 ≤ c ∧ c ≤ 90) M M1) (h0 : -1 ≤ i) (h1 : i ≤ 5), (i + 1).toNat = kk → G X 1 RX1 cX1_lookBehind 4 none (Qv (fun M1 => IC M1 ∧ Fr (fun c => 87 ≤ c ∧ c ≤ 90) M M1)) 44 [(3, vi i), (0, vr X 84), (1, vr X 1)] [] M1 := by
  intro kk
  induction kk using Nat.strongRecOn with
  | ind kk ih =>
    intro i M1 ic1 fr1 h0 h1 hmes
    refine g_iload_n (pc' := 45) 0 dX1_lookBehind_44 rfl rfl ?_
    refine g_if_lt (pc' := 48) (tgt := 156) ⟨by omega, by omega⟩ dX1_lookBehind_45 rfl rfl (fun c1 => ?_) (fun c1 => ?_)
    · refine g_vreturn dX1_lookBehind_156 ?_
      exact ⟨ic1, fr1⟩
    · refine g_aload_n (pc' := 49) 1 dX1_lookBehind_48 rfl rfl ?_
      refine g_getR (pc' := 52) dX1_lookBehind_49 rfl f_X1_21 rfl rfl ?_
      refine g_iload_n (pc' := 53) 0 dX1_lookBehind_52 rfl rfl ?_
      refine g_aload_n (pc' := 54) 1 dX1_lookBehind_53 rfl rfl ?_
      refine g_getR (pc' := 57) dX1_lookBehind_54 rfl f_X1_21 rfl rfl ?_
      refine g_iload_n (pc' := 58) 0 dX1_lookBehind_57 rfl rfl ?_
      refine g_iconst (pc' := 59) dX1_lookBehind_58 rfl ?_
      refine g_iadd (pc' := 60) dX1_lookBehind_59 rfl ?_
      refine g_iald (pc' := 61) dX1_lookBehind_60 rfl rfl (by omega) (by omega) (fun v2 ev2 rv2 => ?_)
      refine g_aload_n (pc' := 62) 2 dX1_lookBehind_61 rfl rfl ?_
      refine g_getR (pc' := 65) dX1_lookBehind_62 rfl f_X1_53 rfl rfl ?_
      refine g_iconst (pc' := 66) dX1_lookBehind_65 rfl ?_
      refine g_iload_n (pc' := 67) 0 dX1_lookBehind_66 rfl rfl ?_
      refine g_imul (pc' := 68) dX1_lookBehind_67 rfl ?_
      refine g_iald (pc' := 69) dX1_lookBehind_68 rfl rfl (by omega) (by omega) (fun v3 ev3 rv3 => ?_)
      refine g_mmin (pc' := 72) dX1_lookBehind_69 rfl m_X1_47 ms_min mi_Math mc_min (by decide) (Nat.le_of_ble_eq_true rfl) rv2 rv3 ?_
      obtain ⟨v4, ev4⟩ : ∃ z : Int, z = if v3 < v2 then v3 else v2 := ⟨_, rfl⟩
      rw [← ev4]
      refine g_iast (pc' := 73) dX1_lookBehind_72 rfl rfl (by omega) (by omega) ⟨by omega, by omega⟩ (fun M5 hM5 => ?_)
      have iM5 : IC M5 := IC.wr ic1 hM5 (by unfold okw isT; first | decide | omega)
      have fM5 : Fr (fun c => 87 ≤ c ∧ c ≤ 90) M M5 := Fr.wr fr1 hM5 (by first | decide | omega | (dsimp only; omega))
      refine g_aload_n (pc' := 74) 1 dX1_lookBehind_73 rfl rfl ?_
      refine g_getR (pc' := 77) dX1_lookBehind_74 rfl f_X1_24 rfl rfl ?_
      refine g_iload_n (pc' := 78) 0 dX1_lookBehind_77 rfl rfl ?_
      refine g_aload_n (pc' := 79) 1 dX1_lookBehind_78 rfl rfl ?_
      refine g_getR (pc' := 82) dX1_lookBehind_79 rfl f_X1_24 rfl rfl ?_
      refine g_iload_n (pc' := 83) 0 dX1_lookBehind_82 rfl rfl ?_
      refine g_iconst (pc' := 84) dX1_lookBehind_83 rfl ?_
      refine g_iadd (pc' := 85) dX1_lookBehind_84 rfl ?_
      refine g_iald (pc' := 86) dX1_lookBehind_85 rfl rfl (by omega) (by omega) (fun v6 ev6 rv6 => ?_)
      refine g_aload_n (pc' := 87) 2 dX1_lookBehind_86 rfl rfl ?_
      refine g_getR (pc' := 90) dX1_lookBehind_87 rfl f_X1_53 rfl rfl ?_
      refine g_iconst (pc' := 91) dX1_lookBehind_90 rfl ?_
      refine g_iload_n (pc' := 92) 0 dX1_lookBehind_91 rfl rfl ?_
      refine g_imul (pc' := 93) dX1_lookBehind_92 rfl ?_
      refine g_iald (pc' := 94) dX1_lookBehind_93 rfl rfl (by omega) (by omega) (fun v7 ev7 rv7 => ?_)
      refine g_mmax (pc' := 97) dX1_lookBehind_94 rfl m_X1_56 ms_max mi_Math mc_max (by decide) (Nat.le_of_ble_eq_true rfl) rv6 rv7 ?_
      obtain ⟨v8, ev8⟩ : ∃ z : Int, z = if v6 < v7 then v7 else v6 := ⟨_, rfl⟩
      rw [← ev8]
      refine g_iast (pc' := 98) dX1_lookBehind_97 rfl rfl (by omega) (by omega) ⟨by omega, by omega⟩ (fun M9 hM9 => ?_)
      have iM9 : IC M9 := IC.wr iM5 hM9 (by unfold okw isT; first | decide | omega)
      have fM9 : Fr (fun c => 87 ≤ c ∧ c ≤ 90) M M9 := Fr.wr fM5 hM9 (by first | decide | omega | (dsimp only; omega))
      refine g_aload_n (pc' := 99) 1 dX1_lookBehind_98 rfl rfl ?_
      refine g_getR (pc' := 102) dX1_lookBehind_99 rfl f_X1_27 rfl rfl ?_
      refine g_iload_n (pc' := 103) 0 dX1_lookBehind_102 rfl rfl ?_
      refine g_aload_n (pc' := 104) 1 dX1_lookBehind_103 rfl rfl ?_
      refine g_getR (pc' := 107) dX1_lookBehind_104 rfl f_X1_27 rfl rfl ?_
      refine g_iload_n (pc' := 108) 0 dX1_lookBehind_107 rfl rfl ?_
      refine g_iconst (pc' := 109) dX1_lookBehind_108 rfl ?_
      refine g_iadd (pc' := 110) dX1_lookBehind_109 rfl ?_
      refine g_iald (pc' := 111) dX1_lookBehind_110 rfl rfl (by omega) (by omega) (fun v10 ev10 rv10 => ?_)
      refine g_aload_n (pc' := 112) 2 dX1_lookBehind_111 rfl rfl ?_
      refine g_getR (pc' := 115) dX1_lookBehind_112 rfl f_X1_53 rfl rfl ?_
      refine g_iconst (pc' := 116) dX1_lookBehind_115 rfl ?_
      refine g_iload_n (pc' := 117) 0 dX1_lookBehind_116 rfl rfl ?_
      refine g_imul (pc' := 118) dX1_lookBehind_117 rfl ?_
      refine g_iconst (pc' := 119) dX1_lookBehind_118 rfl ?_
      refine g_iadd (pc' := 120) dX1_lookBehind_119 rfl ?_
      refine g_iald (pc' := 121) dX1_lookBehind_120 rfl rfl (by omega) (by omega) (fun v11 ev11 rv11 => ?_)
      refine g_mmin (pc' := 124) dX1_lookBehind_121 rfl m_X1_47 ms_min mi_Math mc_min (by decide) (Nat.le_of_ble_eq_true rfl) rv10 rv11 ?_
      obtain ⟨v12, ev12⟩ : ∃ z : Int, z = if v11 < v10 then v11 else v10 := ⟨_, rfl⟩
      rw [← ev12]
      refine g_iast (pc' := 125) dX1_lookBehind_124 rfl rfl (by omega) (by omega) ⟨by omega, by omega⟩ (fun M13 hM13 => ?_)
      have iM13 : IC M13 := IC.wr iM9 hM13 (by unfold okw isT; first | decide | omega)
      have fM13 : Fr (fun c => 87 ≤ c ∧ c ≤ 90) M M13 := Fr.wr fM9 hM13 (by first | decide | omega | (dsimp only; omega))
      refine g_aload_n (pc' := 126) 1 dX1_lookBehind_125 rfl rfl ?_
      refine g_getR (pc' := 129) dX1_lookBehind_126 rfl f_X1_18 rfl rfl ?_
      refine g_iload_n (pc' := 130) 0 dX1_lookBehind_129 rfl rfl ?_
      refine g_aload_n (pc' := 131) 1 dX1_lookBehind_130 rfl rfl ?_
      refine g_getR (pc' := 134) dX1_lookBehind_131 rfl f_X1_18 rfl rfl ?_
      refine g_iload_n (pc' := 135) 0 dX1_lookBehind_134 rfl rfl ?_
      refine g_iconst (pc' := 136) dX1_lookBehind_135 rfl ?_
      refine g_iadd (pc' := 137) dX1_lookBehind_136 rfl ?_
      refine g_iald (pc' := 138) dX1_lookBehind_137 rfl rfl (by omega) (by omega) (fun v14 ev14 rv14 => ?_)
      refine g_aload_n (pc' := 139) 2 dX1_lookBehind_138 rfl rfl ?_
      refine g_getR (pc' := 142) dX1_lookBehind_139 rfl f_X1_53 rfl rfl ?_
      refine g_iconst (pc' := 143) dX1_lookBehind_142 rfl ?_
      refine g_iload_n (pc' := 144) 0 dX1_lookBehind_143 rfl rfl ?_
      refine g_imul (pc' := 145) dX1_lookBehind_144 rfl ?_
      refine g_iconst (pc' := 146) dX1_lookBehind_145 rfl ?_
      refine g_iadd (pc' := 147) dX1_lookBehind_146 rfl ?_
      refine g_iald (pc' := 148) dX1_lookBehind_147 rfl rfl (by omega) (by omega) (fun v15 ev15 rv15 => ?_)
      refine g_iadd (pc' := 149) dX1_lookBehind_148 rfl ?_
      refine g_nrmI (fun n16 rn16 en16 => ?_)
      have bn16 : (-2147483648 ≤ v14 + v15 ∧ v14 + v15 ≤ 2147483647) → n16 = v14 + v15 := fun h => en16.trans (bm32 h)
      refine g_iast (pc' := 150) dX1_lookBehind_149 rfl rfl (by omega) (by omega) rn16 (fun M17 hM17 => ?_)
      have iM17 : IC M17 := IC.wr iM13 hM17 (by unfold okw isT; first | decide | omega)
      have fM17 : Fr (fun c => 87 ≤ c ∧ c ≤ 90) M M17 := Fr.wr fM13 hM17 (by first | decide | omega | (dsimp only; omega))
      refine g_iinc (pc' := 153) (L' := [(3, vi (i + (-1))), (0, vr X 84), (1, vr X 1)]) 0 dX1_lookBehind_150 rfl rfl (by decide) rfl ?_
      refine g_goto (tgt := 44) dX1_lookBehind_153 rfl ?_
      refine g_sub [0, 1, 2] rfl ?_
      exact ih _ (by omega) (i + (-1)) M17 iM17 fM17 (by omega) (by omega) rfl
set_option maxHeartbeats 4000000 in
set_option maxRecDepth 100000 in
theorem c_X1_lookBehind (X : Cx) (M : Mm) (hi : IC M) : Con X 1 yX1_lookBehind cX1_lookBehind 4 none [vr X 84, vr X 1] M (Qv (fun M1 => IC M1 ∧ Fr (fun c => 87 ≤ c ∧ c ≤ 90) M M1)) := by
  refine Con.ofG rfl (Nat.le_of_ble_eq_true rfl) ?_
  show G X 1 RX1 cX1_lookBehind 4 none (Qv (fun M1 => IC M1 ∧ Fr (fun c => 87 ≤ c ∧ c ≤ 90) M M1)) 0 [(0, vr X 84), (1, vr X 1)] [] M
  refine g_aload_n (pc' := 1) 1 dX1_lookBehind_0 rfl rfl ?_
  refine g_getI (pc' := 4) dX1_lookBehind_1 rfl f_X1_42 rfl rfl (fun v1 ev1 rv1 => ?_)
  have bv1 : 0 ≤ v1 ∧ v1 ≤ 6 := by rw [ev1]; exact hi.2.1.1.2.2
  refine g_bipush (pc' := 6) (v := 6) dX1_lookBehind_4 rfl (by decide) ?_
  refine g_mmin (pc' := 9) dX1_lookBehind_6 rfl m_X1_47 ms_min mi_Math mc_min (by decide) (Nat.le_of_ble_eq_true rfl) rv1 (by decide) ?_
  obtain ⟨v2, ev2⟩ : ∃ z : Int, z = if 6 < v1 then 6 else v1 := ⟨_, rfl⟩
  rw [← ev2]
  refine g_istore_n (pc' := 10) (i := 2) (L' := [(2, vi v2), (0, vr X 84), (1, vr X 1)]) dX1_lookBehind_9 rfl rfl (by decide) rfl ?_
  refine g_aload_n (pc' := 11) 1 dX1_lookBehind_10 rfl rfl ?_
  refine g_getR (pc' := 14) dX1_lookBehind_11 rfl f_X1_18 rfl rfl ?_
  refine g_iload_n (pc' := 15) 0 dX1_lookBehind_14 rfl rfl ?_
  refine g_iconst (pc' := 16) dX1_lookBehind_15 rfl ?_
  refine g_iast (pc' := 17) dX1_lookBehind_16 rfl rfl (by omega) (by omega) (by decide) (fun M3 hM3 => ?_)
  have iM3 : IC M3 := IC.wr hi hM3 (by unfold okw isT; first | decide | omega)
  have fM3 : Fr (fun c => 87 ≤ c ∧ c ≤ 90) M M3 := Fr.wr Fr.rf hM3 (by first | decide | omega | (dsimp only; omega))
  refine g_aload_n (pc' := 18) 1 dX1_lookBehind_17 rfl rfl ?_
  refine g_getR (pc' := 21) dX1_lookBehind_18 rfl f_X1_21 rfl rfl ?_
  refine g_iload_n (pc' := 22) 0 dX1_lookBehind_21 rfl rfl ?_
  refine g_bipush (pc' := 24) (v := 100) dX1_lookBehind_22 rfl (by decide) ?_
  refine g_iast (pc' := 25) dX1_lookBehind_24 rfl rfl (by omega) (by omega) (by decide) (fun M4 hM4 => ?_)
  have iM4 : IC M4 := IC.wr iM3 hM4 (by unfold okw isT; first | decide | omega)
  have fM4 : Fr (fun c => 87 ≤ c ∧ c ≤ 90) M M4 := Fr.wr fM3 hM4 (by first | decide | omega | (dsimp only; omega))
  refine g_aload_n (pc' := 26) 1 dX1_lookBehind_25 rfl rfl ?_
  refine g_getR (pc' := 29) dX1_lookBehind_26 rfl f_X1_24 rfl rfl ?_
  refine g_iload_n (pc' := 30) 0 dX1_lookBehind_29 rfl rfl ?_
  refine g_iconst (pc' := 31) dX1_lookBehind_30 rfl ?_
  refine g_iast (pc' := 32) dX1_lookBehind_31 rfl rfl (by omega) (by omega) (by decide) (fun M5 hM5 => ?_)
  have iM5 : IC M5 := IC.wr iM4 hM5 (by unfold okw isT; first | decide | omega)
  have fM5 : Fr (fun c => 87 ≤ c ∧ c ≤ 90) M M5 := Fr.wr fM4 hM5 (by first | decide | omega | (dsimp only; omega))
  refine g_aload_n (pc' := 33) 1 dX1_lookBehind_32 rfl rfl ?_
  refine g_getR (pc' := 36) dX1_lookBehind_33 rfl f_X1_27 rfl rfl ?_
  refine g_iload_n (pc' := 37) 0 dX1_lookBehind_36 rfl rfl ?_
  refine g_bipush (pc' := 39) (v := 99) dX1_lookBehind_37 rfl (by decide) ?_
  refine g_iast (pc' := 40) dX1_lookBehind_39 rfl rfl (by omega) (by omega) (by decide) (fun M6 hM6 => ?_)
  have iM6 : IC M6 := IC.wr iM5 hM6 (by unfold okw isT; first | decide | omega)
  have fM6 : Fr (fun c => 87 ≤ c ∧ c ≤ 90) M M6 := Fr.wr fM5 hM6 (by first | decide | omega | (dsimp only; omega))
  refine g_iload_n (pc' := 41) 0 dX1_lookBehind_40 rfl rfl ?_
  refine g_iconst (pc' := 42) dX1_lookBehind_41 rfl ?_
  refine g_isub (pc' := 43) dX1_lookBehind_42 rfl ?_
  obtain ⟨x7, ex7⟩ : ∃ z : Int, z = v2 - 1 := ⟨_, rfl⟩
  rw [← ex7]
  refine g_istore_n (pc' := 44) (i := 3) (L' := [(3, vi x7), (2, vi v2), (0, vr X 84), (1, vr X 1)]) dX1_lookBehind_43 rfl rfl (by decide) rfl ?_
  refine g_sub [0, 2, 3] rfl ?_
  exact l_X1_lookBehind_44 X M hi _ x7 M6 iM6 fM6 (by omega) (by omega) rfl
set_option maxHeartbeats 4000000 in
set_option maxRecDepth 100000 in
theorem l_X1_take_100 (X : Cx) (M : Mm) (hi : IC M) (w : Int) (hw : inI w) (al : Int) (hal : inI al) (sl : Int) (hsl : inI sl) (pr : Int) (hpr : inI pr) (hw6 : 0 ≤ w ∧ w ≤ 6) (ha20 : 0 ≤ al ∧ al ≤ 20) (hrec : ∀ (M : Mm) (_ : IC M) (al sl pr : Int), inI al → inI sl → inI pr → 0 ≤ al → al ≤ 20 → w ≤ 5 → Con X (3 + (7 - (w + 1)).toNat) yX1_take cX1_take 10 none [vr X 84, vr X 1, vi (w + 1), vi al, vi sl, vi pr] M (Qv (fun M1 => IC M1 ∧ Fr (fun c => c = 84 ∨ c = 85 ∨ c = 86) M M1))) : ∀ (kk : Nat) (st : Int) (co : Int) (mo : Int) (tk : Int) (M1 : Mm) (ic1 : IC M1) (fr1 : Fr (fun c => c = 84 ∨ c = 85 ∨ c = 86) M M1) (q1_6 : (M1 1 6 = M 1 6)) (hs : inI st) (hc : inI co) (hm : inI mo ∧ mo ≤ al) (hw5 : w ≤ 5) (h0 : 0 ≤ tk) (h1 : tk ≤ 21), (21 - tk).toNat = kk → G X (3 + (7 - w).toNat) RX1 cX1_take 10 none (Qv (fun M1 => IC M1 ∧ Fr (fun c => c = 84 ∨ c = 85 ∨ c = 86) M M1)) 100 [(6, vi st), (7, vi co), (8, vi mo), (9, vi tk), (0, vr X 84), (1, vr X 1), (2, vi w), (3, vi al), (4, vi sl), (5, vi pr)] [] M1 := by
  intro kk
  induction kk using Nat.strongRecOn with
  | ind kk ih =>
    intro st co mo tk M1 ic1 fr1 q1_6 hs hc hm hw5 h0 h1 hmes
    refine g_iload (pc' := 102) 3 dX1_take_100 rfl rfl ?_
    refine g_iload (pc' := 104) 2 dX1_take_102 rfl rfl ?_
    refine g_ic_gt (pc' := 107) (tgt := 149) ⟨by omega, by omega⟩ ⟨by omega, by omega⟩ dX1_take_104 rfl rfl (fun c1 => ?_) (fun c1 => ?_)
    · refine g_vreturn dX1_take_149 ?_
      exact ⟨ic1, fr1⟩
    · refine g_aload_n (pc' := 108) 4 dX1_take_107 rfl rfl ?_
      refine g_getR (pc' := 111) dX1_take_108 rfl f_X1_9 rfl rfl ?_
      refine g_iload_n (pc' := 112) 6 dX1_take_111 rfl rfl ?_
      refine g_iload (pc' := 114) 3 dX1_take_112 rfl rfl ?_
      refine g_iast (pc' := 115) dX1_take_114 rfl rfl (by omega) (by omega) ⟨by omega, by omega⟩ (fun M2 hM2 => ?_)
      have iM2 : IC M2 := IC.wr ic1 hM2 (by unfold okw isT; first | decide | omega)
      have fM2 : Fr (fun c => c = 84 ∨ c = 85 ∨ c = 86) M M2 := Fr.wr fr1 hM2 (by first | decide | omega | (dsimp only; omega))
      have q1_6_M2 : (M2 1 6 = M 1 6) := (show M2 1 6 = M1 1 6 by rw [hM2]; exact mu_ne _ _ (by first | decide | omega)).trans q1_6
      refine g_aload_n (pc' := 116) 4 dX1_take_115 rfl rfl ?_
      refine g_aload_n (pc' := 117) 5 dX1_take_116 rfl rfl ?_
      refine g_iload_n (pc' := 118) 6 dX1_take_117 rfl rfl ?_
      refine g_iconst (pc' := 119) dX1_take_118 rfl ?_
      refine g_iadd (pc' := 120) dX1_take_119 rfl ?_
      refine g_iload_n (pc' := 121) 7 dX1_take_120 rfl rfl ?_
      refine g_iload (pc' := 123) 3 dX1_take_121 rfl rfl ?_
      refine g_isub (pc' := 124) dX1_take_123 rfl ?_
      refine g_iload (pc' := 126) 8 dX1_take_124 rfl rfl ?_
      refine g_iload (pc' := 128) 3 dX1_take_126 rfl rfl ?_
      refine g_iload (pc' := 130) 0 dX1_take_128 rfl rfl ?_
      refine g_imul (pc' := 131) dX1_take_130 rfl ?_
      refine g_isub (pc' := 132) dX1_take_131 rfl ?_
      refine g_nrmI (fun n3 rn3 en3 => ?_)
      have bn3 : (-2147483648 ≤ sl - (tk * st) ∧ sl - (tk * st) ≤ 2147483647) → n3 = sl - (tk * st) := fun h => en3.trans (bm32 h)
      refine g_iload (pc' := 134) 9 dX1_take_132 rfl rfl ?_
      refine g_iload (pc' := 136) 3 dX1_take_134 rfl rfl ?_
      refine g_iload (pc' := 138) 1 dX1_take_136 rfl rfl ?_
      refine g_imul (pc' := 139) dX1_take_138 rfl ?_
      refine g_iadd (pc' := 140) dX1_take_139 rfl ?_
      refine g_nrmI (fun n4 rn4 en4 => ?_)
      have bn4 : (-2147483648 ≤ pr + (tk * co) ∧ pr + (tk * co) ≤ 2147483647) → n4 = pr + (tk * co) := fun h => en4.trans (bm32 h)
      refine g_callVv (pc' := 143) (As := [vr X 1, vi (w + 1), vi (al - tk), vi n3, vi n4]) (b := 84) (S := []) dX1_take_140 rfl m_X1_38 w_X1_take (hrec M2 iM2 (al - tk) n3 n4 ⟨by omega, by omega⟩ rn3 rn4 (by omega) (by omega) (by omega)) rfl ⟨_, _, _, rfl, rfl, rfl⟩ (by omega) (by decide) rfl (Nat.le_of_ble_eq_true rfl) (fun M6 q5 => ?_)
      obtain ⟨iM6, fM60⟩ := q5
      have fM6 : Fr (fun c => c = 84 ∨ c = 85 ∨ c = 86) M M6 := Fr.tr fM2 fM60 (fun _ z => z)
      have q1_6_M6 : (M6 1 6 = M 1 6) := (congrFun (fM60 1 (by first | decide | omega | (dsimp only; omega))) 6).trans q1_6_M2
      refine g_iinc (pc' := 146) (L' := [(9, vi (tk + 1)), (6, vi st), (7, vi co), (8, vi mo), (0, vr X 84), (1, vr X 1), (2, vi w), (3, vi al), (4, vi sl), (5, vi pr)]) 3 dX1_take_143 rfl rfl (by decide) rfl ?_
      refine g_goto (tgt := 100) dX1_take_146 rfl ?_
      refine g_sub [1, 2, 3, 0, 4, 5, 6, 7, 8, 9] rfl ?_
      exact ih _ (by omega) st co mo (tk + 1) M6 iM6 fM6 q1_6_M6 (by first | assumption | exact ⟨by omega, by omega⟩) (by first | assumption | exact ⟨by omega, by omega⟩) (by omega) (by omega) (by omega) (by omega) rfl
set_option maxHeartbeats 4000000 in
set_option maxRecDepth 100000 in
theorem c_X1_take (X : Cx) (M : Mm) (hi : IC M) (w : Int) (hw : inI w) (al : Int) (hal : inI al) (sl : Int) (hsl : inI sl) (pr : Int) (hpr : inI pr) (hw6 : 0 ≤ w ∧ w ≤ 6) (ha20 : 0 ≤ al ∧ al ≤ 20) (hrec : ∀ (M : Mm) (_ : IC M) (al sl pr : Int), inI al → inI sl → inI pr → 0 ≤ al → al ≤ 20 → w ≤ 5 → Con X (3 + (7 - (w + 1)).toNat) yX1_take cX1_take 10 none [vr X 84, vr X 1, vi (w + 1), vi al, vi sl, vi pr] M (Qv (fun M1 => IC M1 ∧ Fr (fun c => c = 84 ∨ c = 85 ∨ c = 86) M M1))) : Con X (3 + (7 - w).toNat) yX1_take cX1_take 10 none [vr X 84, vr X 1, vi w, vi al, vi sl, vi pr] M (Qv (fun M1 => IC M1 ∧ Fr (fun c => c = 84 ∨ c = 85 ∨ c = 86) M M1)) := by
  refine Con.ofG rfl (Nat.le_of_ble_eq_true rfl) ?_
  show G X (3 + (7 - w).toNat) RX1 cX1_take 10 none (Qv (fun M1 => IC M1 ∧ Fr (fun c => c = 84 ∨ c = 85 ∨ c = 86) M M1)) 0 [(0, vr X 84), (1, vr X 1), (2, vi w), (3, vi al), (4, vi sl), (5, vi pr)] [] M
  refine g_aload_n (pc' := 1) 0 dX1_take_0 rfl rfl ?_
  refine g_iload_n (pc' := 2) 2 dX1_take_1 rfl rfl ?_
  refine g_iload_n (pc' := 3) 3 dX1_take_2 rfl rfl ?_
  refine g_iload (pc' := 5) 4 dX1_take_3 rfl rfl ?_
  refine g_callVip (pc' := 8) (As := [vi w, vi al, vi sl]) (b := 84) (S := []) dX1_take_5 rfl m_X1_59 w_X1_canBe (c_X1_canBe X M hi w hw al hal sl hsl ⟨by omega, by omega⟩) rfl ⟨_, _, _, rfl, rfl, rfl⟩ (by omega) (by decide) rfl (Nat.le_of_ble_eq_true rfl) (fun z2 q1 => ?_)
  refine g_if_eq (pc' := 11) (tgt := 22) ⟨by omega, by omega⟩ dX1_take_8 rfl rfl (fun c3 => ?_) (fun c3 => ?_)
  · refine g_vreturn dX1_take_22 ?_
    exact ⟨hi, Fr.rf⟩
  · refine g_aload_n (pc' := 12) 0 dX1_take_11 rfl rfl ?_
    refine g_iload_n (pc' := 13) 2 dX1_take_12 rfl rfl ?_
    refine g_iload_n (pc' := 14) 3 dX1_take_13 rfl rfl ?_
    refine g_iload (pc' := 16) 5 dX1_take_14 rfl rfl ?_
    refine g_callVip (pc' := 19) (As := [vi w, vi al, vi pr]) (b := 84) (S := []) dX1_take_16 rfl m_X1_63 w_X1_canBeCheaper (c_X1_canBeCheaper X M hi w hw al hal pr hpr ⟨by omega, by omega⟩) rfl ⟨_, _, _, rfl, rfl, rfl⟩ (by omega) (by decide) rfl (Nat.le_of_ble_eq_true rfl) (fun z5 q4 => ?_)
    refine g_if_ne (pc' := 22) (tgt := 23) ⟨by omega, by omega⟩ dX1_take_19 rfl rfl (fun c6 => ?_) (fun c6 => ?_)
    · refine g_iload_n (pc' := 24) 2 dX1_take_23 rfl rfl ?_
      refine g_aload_n (pc' := 25) 1 dX1_take_24 rfl rfl ?_
      refine g_getI (pc' := 28) dX1_take_25 rfl f_X1_42 rfl rfl (fun v7 ev7 rv7 => ?_)
      have bv7 : 0 ≤ v7 ∧ v7 ≤ 6 := by rw [ev7]; exact hi.2.1.1.2.2
      have av7 : v7 = M 1 6 := ev7
      refine g_ic_ge (pc' := 31) (tgt := 37) hw rv7 dX1_take_28 rfl rfl (fun c8 => ?_) (fun c8 => ?_)
      · refine g_aload_n (pc' := 38) 0 dX1_take_37 rfl rfl ?_
        refine g_iload (pc' := 40) 5 dX1_take_38 rfl rfl ?_
        refine g_putI (pc' := 43) dX1_take_40 rfl p_X1_30 rfl rfl hpr (fun M9 hM9 => ?_)
        have iM9 : IC M9 := IC.wr hi hM9 (by unfold okw isT; first | decide | omega)
        have fM9 : Fr (fun c => c = 84 ∨ c = 85 ∨ c = 86) M M9 := Fr.wr Fr.rf hM9 (by first | decide | omega | (dsimp only; omega))
        have q1_6_M9 : (M9 1 6 = M 1 6) := (show M9 1 6 = M 1 6 by rw [hM9]; exact mu_ne _ _ (by first | decide | omega))
        have xM9_84_2 : M9 84 2 = pr := by rw [hM9]; exact mu_at _ _ _ _
        refine g_aload_n (pc' := 44) 0 dX1_take_43 rfl rfl ?_
        refine g_getR (pc' := 47) dX1_take_44 rfl f_X1_9 rfl rfl ?_
        refine g_iconst (pc' := 48) dX1_take_47 rfl ?_
        refine g_aload_n (pc' := 49) 0 dX1_take_48 rfl rfl ?_
        refine g_getR (pc' := 52) dX1_take_49 rfl f_X1_15 rfl rfl ?_
        refine g_iconst (pc' := 53) dX1_take_52 rfl ?_
        refine g_bipush (pc' := 55) (v := 6) dX1_take_53 rfl (by decide) ?_
        refine g_copyI (pc' := 58) (sp := 0) (dp := 0) (n := 6) dX1_take_55 rfl m_X1_66 mn_copy ms_copy mi_Sys rfl rfl (by decide) (by decide) (by omega) (Nat.le_of_ble_eq_true rfl) (fun M10 hM10 => ?_)
        have iM10 : IC M10 := IC.cp iM9 hM10 (by unfold free isT; omega)
        have fM10 : Fr (fun c => c = 84 ∨ c = 85 ∨ c = 86) M M10 := Fr.cp fM9 hM10 (by first | decide | omega | (dsimp only; omega))
        have q1_6_M10 : (M10 1 6 = M 1 6) := (congrFun (show M10 1 = M9 1 by rw [hM10]; exact mcp_cell _ (by first | decide | omega)) 6).trans q1_6_M9
        have xM10_84_2 : M10 84 2 = pr := (show M10 84 2 = M9 84 2 by rw [hM10]; exact congrFun (mcp_cell _ (by first | decide | omega)) 2).trans xM9_84_2
        refine g_vreturn dX1_take_58 ?_
        exact ⟨iM10, fM10⟩
      · refine g_iload_n (pc' := 32) 2 dX1_take_31 rfl rfl ?_
        refine g_bipush (pc' := 34) (v := 6) dX1_take_32 rfl (by decide) ?_
        refine g_ic_lt (pc' := 37) (tgt := 59) hw (by decide) dX1_take_34 rfl rfl (fun c11 => ?_) (fun c11 => ?_)
        · refine g_aload_n (pc' := 60) 1 dX1_take_59 rfl rfl ?_
          refine g_getR (pc' := 63) dX1_take_60 rfl f_X1_53 rfl rfl ?_
          refine g_iconst (pc' := 64) dX1_take_63 rfl ?_
          refine g_iload_n (pc' := 65) 2 dX1_take_64 rfl rfl ?_
          refine g_imul (pc' := 66) dX1_take_65 rfl ?_
          refine g_iald (pc' := 67) dX1_take_66 rfl rfl (by omega) (by omega) (fun v12 ev12 rv12 => ?_)
          refine g_istore (pc' := 69) (L' := [(6, vi v12), (0, vr X 84), (1, vr X 1), (2, vi w), (3, vi al), (4, vi sl), (5, vi pr)]) dX1_take_67 rfl (by decide) rfl ?_
          refine g_aload_n (pc' := 70) 2 dX1_take_69 rfl rfl ?_
          refine g_getR (pc' := 73) dX1_take_70 rfl f_X1_53 rfl rfl ?_
          refine g_iconst (pc' := 74) dX1_take_73 rfl ?_
          refine g_iload_n (pc' := 75) 3 dX1_take_74 rfl rfl ?_
          refine g_imul (pc' := 76) dX1_take_75 rfl ?_
          refine g_iconst (pc' := 77) dX1_take_76 rfl ?_
          refine g_iadd (pc' := 78) dX1_take_77 rfl ?_
          refine g_iald (pc' := 79) dX1_take_78 rfl rfl (by omega) (by omega) (fun v13 ev13 rv13 => ?_)
          refine g_istore (pc' := 81) (L' := [(7, vi v13), (6, vi v12), (0, vr X 84), (1, vr X 1), (2, vi w), (3, vi al), (4, vi sl), (5, vi pr)]) dX1_take_79 rfl (by decide) rfl ?_
          refine g_iload_n (pc' := 82) 5 dX1_take_81 rfl rfl ?_
          refine g_aload_n (pc' := 83) 3 dX1_take_82 rfl rfl ?_
          refine g_getR (pc' := 86) dX1_take_83 rfl f_X1_53 rfl rfl ?_
          refine g_iconst (pc' := 87) dX1_take_86 rfl ?_
          refine g_iload_n (pc' := 88) 4 dX1_take_87 rfl rfl ?_
          refine g_imul (pc' := 89) dX1_take_88 rfl ?_
          refine g_iconst (pc' := 90) dX1_take_89 rfl ?_
          refine g_iadd (pc' := 91) dX1_take_90 rfl ?_
          refine g_iald (pc' := 92) dX1_take_91 rfl rfl (by omega) (by omega) (fun v14 ev14 rv14 => ?_)
          refine g_mmin (pc' := 95) dX1_take_92 rfl m_X1_47 ms_min mi_Math mc_min (by omega) (Nat.le_of_ble_eq_true rfl) hal rv14 ?_
          obtain ⟨v15, ev15⟩ : ∃ z : Int, z = if v14 < al then v14 else al := ⟨_, rfl⟩
          rw [← ev15]
          refine g_istore (pc' := 97) (L' := [(8, vi v15), (7, vi v13), (6, vi v12), (0, vr X 84), (1, vr X 1), (2, vi w), (3, vi al), (4, vi sl), (5, vi pr)]) dX1_take_95 rfl (by decide) rfl ?_
          refine g_iconst (pc' := 98) dX1_take_97 rfl ?_
          refine g_istore (pc' := 100) (L' := [(9, vi 0), (8, vi v15), (7, vi v13), (6, vi v12), (0, vr X 84), (1, vr X 1), (2, vi w), (3, vi al), (4, vi sl), (5, vi pr)]) dX1_take_98 rfl (by decide) rfl ?_
          refine g_sub [3, 2, 1, 0, 4, 5, 6, 7, 8, 9] rfl ?_
          exact l_X1_take_100 X M hi w hw al hal sl hsl pr hpr hw6 ha20 hrec _ v12 v13 v15 0 M hi Fr.rf rfl (by first | assumption | exact ⟨by omega, by omega⟩) (by first | assumption | exact ⟨by omega, by omega⟩) (by omega) (by omega) (by omega) (by omega) rfl
        · refine g_aload_n (pc' := 38) 0 dX1_take_37 rfl rfl ?_
          refine g_iload (pc' := 40) 5 dX1_take_38 rfl rfl ?_
          refine g_putI (pc' := 43) dX1_take_40 rfl p_X1_30 rfl rfl hpr (fun M16 hM16 => ?_)
          have iM16 : IC M16 := IC.wr hi hM16 (by unfold okw isT; first | decide | omega)
          have fM16 : Fr (fun c => c = 84 ∨ c = 85 ∨ c = 86) M M16 := Fr.wr Fr.rf hM16 (by first | decide | omega | (dsimp only; omega))
          have q1_6_M16 : (M16 1 6 = M 1 6) := (show M16 1 6 = M 1 6 by rw [hM16]; exact mu_ne _ _ (by first | decide | omega))
          have xM16_84_2 : M16 84 2 = pr := by rw [hM16]; exact mu_at _ _ _ _
          refine g_aload_n (pc' := 44) 0 dX1_take_43 rfl rfl ?_
          refine g_getR (pc' := 47) dX1_take_44 rfl f_X1_9 rfl rfl ?_
          refine g_iconst (pc' := 48) dX1_take_47 rfl ?_
          refine g_aload_n (pc' := 49) 0 dX1_take_48 rfl rfl ?_
          refine g_getR (pc' := 52) dX1_take_49 rfl f_X1_15 rfl rfl ?_
          refine g_iconst (pc' := 53) dX1_take_52 rfl ?_
          refine g_bipush (pc' := 55) (v := 6) dX1_take_53 rfl (by decide) ?_
          refine g_copyI (pc' := 58) (sp := 0) (dp := 0) (n := 6) dX1_take_55 rfl m_X1_66 mn_copy ms_copy mi_Sys rfl rfl (by decide) (by decide) (by omega) (Nat.le_of_ble_eq_true rfl) (fun M17 hM17 => ?_)
          have iM17 : IC M17 := IC.cp iM16 hM17 (by unfold free isT; omega)
          have fM17 : Fr (fun c => c = 84 ∨ c = 85 ∨ c = 86) M M17 := Fr.cp fM16 hM17 (by first | decide | omega | (dsimp only; omega))
          have q1_6_M17 : (M17 1 6 = M 1 6) := (congrFun (show M17 1 = M16 1 by rw [hM17]; exact mcp_cell _ (by first | decide | omega)) 6).trans q1_6_M16
          have xM17_84_2 : M17 84 2 = pr := (show M17 84 2 = M16 84 2 by rw [hM17]; exact congrFun (mcp_cell _ (by first | decide | omega)) 2).trans xM16_84_2
          refine g_vreturn dX1_take_58 ?_
          exact ⟨iM17, fM17⟩
    · refine g_vreturn dX1_take_22 ?_
      exact ⟨hi, Fr.rf⟩
theorem r_take (X : Cx) : ∀ (k : Nat) (w : Int), 0 ≤ w → w ≤ 6 → (7 - w).toNat = k → ∀ (M : Mm) (_ : IC M) (al sl pr : Int), inI al → inI sl → inI pr → 0 ≤ al → al ≤ 20 → Con X (3 + (7 - w).toNat) yX1_take cX1_take 10 none [vr X 84, vr X 1, vi w, vi al, vi sl, vi pr] M (Qv (fun M1 => IC M1 ∧ Fr (fun c => c = 84 ∨ c = 85 ∨ c = 86) M M1)) := by
  intro k
  induction k using Nat.strongRecOn with
  | ind k ih =>
    intro w h0 h6 hk M hi al sl pr h1 h2 h3 h4 h5
    have hw : inI w := ⟨by omega, by omega⟩
    exact c_X1_take X M hi w hw al h1 sl h2 pr h3 ⟨h0, h6⟩ ⟨h4, h5⟩ (fun M hi al sl pr h1 h2 h3 h4 h5 h6 => ih _ (by omega) (w + 1) (by omega) (by omega) rfl M hi al sl pr h1 h2 h3 h4 h5)
set_option maxHeartbeats 4000000 in
set_option maxRecDepth 100000 in
theorem c_X1_leastPrice (X : Cx) (M : Mm) (hi : IC M) (a : Int) (ha : inI a) (b : Int) (hb : inI b) (ha20 : 1 ≤ a ∧ a ≤ 20) : Con X 11 yX1_leastPrice cX1_leastPrice 4 (some .int) [vr X 84, vr X 1, vi a, vi b] M (Qi (fun r M1 => IC M1 ∧ Fr (fun c => 84 ≤ c ∧ c ≤ 90) M M1 ∧ (inI r))) := by
  refine Con.ofG rfl (Nat.le_of_ble_eq_true rfl) ?_
  show G X 11 RX1 cX1_leastPrice 4 (some .int) (Qi (fun r M1 => IC M1 ∧ Fr (fun c => 84 ≤ c ∧ c ≤ 90) M M1 ∧ (inI r))) 0 [(0, vr X 84), (1, vr X 1), (2, vi a), (3, vi b)] [] M
  refine g_aload_n (pc' := 1) 0 dX1_leastPrice_0 rfl rfl ?_
  refine g_iconst (pc' := 2) dX1_leastPrice_1 rfl ?_
  refine g_putI (pc' := 5) dX1_leastPrice_2 rfl p_X1_30 rfl rfl (by decide) (fun M1 hM1 => ?_)
  have iM1 : IC M1 := IC.wr hi hM1 (by unfold okw isT; first | decide | omega)
  have fM1 : Fr (fun c => 84 ≤ c ∧ c ≤ 90) M M1 := Fr.wr Fr.rf hM1 (by first | decide | omega | (dsimp only; omega))
  have xM1_84_2 : M1 84 2 = (-1) := by rw [hM1]; exact mu_at _ _ _ _
  refine g_aload_n (pc' := 6) 0 dX1_leastPrice_5 rfl rfl ?_
  refine g_aload_n (pc' := 7) 1 dX1_leastPrice_6 rfl rfl ?_
  refine g_callVv (pc' := 10) (As := [vr X 1]) (b := 84) (S := []) dX1_leastPrice_7 rfl m_X1_34 w_X1_lookBehind (c_X1_lookBehind X M1 iM1) rfl ⟨_, _, _, rfl, rfl, rfl⟩ (by decide) (by decide) rfl (Nat.le_of_ble_eq_true rfl) (fun M3 q2 => ?_)
  obtain ⟨iM3, fM30⟩ := q2
  have fM3 : Fr (fun c => 84 ≤ c ∧ c ≤ 90) M M3 := Fr.tr fM1 fM30 fi_7
  have xM3_84_2 : M3 84 2 = (-1) := (congrFun (fM30 84 (by first | decide | omega | (dsimp only; omega))) 2).trans xM1_84_2
  refine g_aload_n (pc' := 11) 0 dX1_leastPrice_10 rfl rfl ?_
  refine g_aload_n (pc' := 12) 1 dX1_leastPrice_11 rfl rfl ?_
  refine g_iconst (pc' := 13) dX1_leastPrice_12 rfl ?_
  refine g_iload_n (pc' := 14) 2 dX1_leastPrice_13 rfl rfl ?_
  refine g_iload_n (pc' := 15) 2 dX1_leastPrice_14 rfl rfl ?_
  refine g_iload_n (pc' := 16) 3 dX1_leastPrice_15 rfl rfl ?_
  refine g_imul (pc' := 17) dX1_leastPrice_16 rfl ?_
  refine g_nrmI (fun n4 rn4 en4 => ?_)
  have bn4 : (-2147483648 ≤ a * b ∧ a * b ≤ 2147483647) → n4 = a * b := fun h => en4.trans (bm32 h)
  refine g_iconst (pc' := 18) dX1_leastPrice_17 rfl ?_
  refine g_callVv (pc' := 21) (As := [vr X 1, vi 0, vi a, vi n4, vi 0]) (b := 84) (S := []) dX1_leastPrice_18 rfl m_X1_38 w_X1_take (r_take X _ 0 (by omega) (by omega) rfl M3 iM3 a n4 0 ha rn4 (by decide) (by omega) (by omega)) rfl ⟨_, _, _, rfl, rfl, rfl⟩ (by decide) (by decide) rfl (Nat.le_of_ble_eq_true rfl) (fun M6 q5 => ?_)
  obtain ⟨iM6, fM60⟩ := q5
  have fM6 : Fr (fun c => 84 ≤ c ∧ c ≤ 90) M M6 := Fr.tr fM3 fM60 fi_8
  refine g_aload_n (pc' := 22) 0 dX1_leastPrice_21 rfl rfl ?_
  refine g_getI (pc' := 25) dX1_leastPrice_22 rfl f_X1_30 rfl rfl (fun v7 ev7 rv7 => ?_)
  refine g_ireturn dX1_leastPrice_25 ?_
  exact ⟨iM6, fM6, by omega⟩
