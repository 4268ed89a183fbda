set_option maxHeartbeats 4000000 in
set_option maxRecDepth 100000 in
theorem c_X8_kindOf_x (X : Cx) (M : Mm) (a : Int) (ha : inI a) : Con X 0 yX8_kindOf cX8_kindOf 1 (some .int) [vi a] M (Qi (fun r M1 => M1 = M ∧ (r = kdO a))) := by
  refine Con.ofG rfl (Nat.le_of_ble_eq_true rfl) ?_
  show G X 0 RX8 cX8_kindOf 1 (some .int) (Qi (fun r M1 => M1 = M ∧ (r = kdO a))) 0 [(0, vi a)] [] M
  refine g_iload_n (pc' := 1) 0 dX8_kindOf_0 rfl rfl ?_
  refine g_bipush (pc' := 3) (v := 97) dX8_kindOf_1 rfl (by decide) ?_
  refine g_ic_lt (pc' := 6) (tgt := 14) ha (by decide) dX8_kindOf_3 rfl rfl (fun c1 => ?_) (fun c1 => ?_)
  · refine g_iload_n (pc' := 15) 0 dX8_kindOf_14 rfl rfl ?_
    refine g_bipush (pc' := 17) (v := 48) dX8_kindOf_15 rfl (by decide) ?_
    refine g_ic_lt (pc' := 20) (tgt := 30) ha (by decide) dX8_kindOf_17 rfl rfl (fun c2 => ?_) (fun c2 => ?_)
    · refine g_iconst (pc' := 31) dX8_kindOf_30 rfl ?_
      refine g_ireturn dX8_kindOf_31 ?_
      exact ⟨rfl, by unfold kdO; split <;> first | omega | (split <;> omega)⟩
    · refine g_iload_n (pc' := 21) 0 dX8_kindOf_20 rfl rfl ?_
      refine g_bipush (pc' := 23) (v := 57) dX8_kindOf_21 rfl (by decide) ?_
      refine g_ic_gt (pc' := 26) (tgt := 30) ha (by decide) dX8_kindOf_23 rfl rfl (fun c3 => ?_) (fun c3 => ?_)
      · refine g_iconst (pc' := 31) dX8_kindOf_30 rfl ?_
        refine g_ireturn dX8_kindOf_31 ?_
        exact ⟨rfl, by unfold kdO; split <;> first | omega | (split <;> omega)⟩
      · refine g_iconst (pc' := 27) dX8_kindOf_26 rfl ?_
        refine g_goto (tgt := 31) dX8_kindOf_27 rfl ?_
        refine g_ireturn dX8_kindOf_31 ?_
        exact ⟨rfl, by unfold kdO; split <;> first | omega | (split <;> omega)⟩
  · refine g_iload_n (pc' := 7) 0 dX8_kindOf_6 rfl rfl ?_
    refine g_bipush (pc' := 9) (v := 122) dX8_kindOf_7 rfl (by decide) ?_
    refine g_ic_gt (pc' := 12) (tgt := 14) ha (by decide) dX8_kindOf_9 rfl rfl (fun c4 => ?_) (fun c4 => ?_)
    · refine g_iload_n (pc' := 15) 0 dX8_kindOf_14 rfl rfl ?_
      refine g_bipush (pc' := 17) (v := 48) dX8_kindOf_15 rfl (by decide) ?_
      refine g_ic_lt (pc' := 20) (tgt := 30) ha (by decide) dX8_kindOf_17 rfl rfl (fun c5 => ?_) (fun c5 => ?_)
      · refine g_iconst (pc' := 31) dX8_kindOf_30 rfl ?_
        refine g_ireturn dX8_kindOf_31 ?_
        exact ⟨rfl, by unfold kdO; split <;> first | omega | (split <;> omega)⟩
      · refine g_iload_n (pc' := 21) 0 dX8_kindOf_20 rfl rfl ?_
        refine g_bipush (pc' := 23) (v := 57) dX8_kindOf_21 rfl (by decide) ?_
        refine g_ic_gt (pc' := 26) (tgt := 30) ha (by decide) dX8_kindOf_23 rfl rfl (fun c6 => ?_) (fun c6 => ?_)
        · refine g_iconst (pc' := 31) dX8_kindOf_30 rfl ?_
          refine g_ireturn dX8_kindOf_31 ?_
          exact ⟨rfl, by unfold kdO; split <;> first | omega | (split <;> omega)⟩
        · refine g_iconst (pc' := 27) dX8_kindOf_26 rfl ?_
          refine g_goto (tgt := 31) dX8_kindOf_27 rfl ?_
          refine g_ireturn dX8_kindOf_31 ?_
          exact ⟨rfl, by unfold kdO; split <;> first | omega | (split <;> omega)⟩
    · refine g_iconst (pc' := 13) dX8_kindOf_12 rfl ?_
      refine g_ireturn dX8_kindOf_13 ?_
      exact ⟨rfl, by unfold kdO; split <;> first | omega | (split <;> omega)⟩
set_option maxHeartbeats 4000000 in
set_option maxRecDepth 100000 in
theorem c_X8_isFirstOfToken_x (X : Cx) (M : Mm) (hi : IC M) (p : Int) (hp : inI p) (pp : 0 ≤ p ∧ p ≤ 399) : Con X 1 yX8_isFirstOfToken cX8_isFirstOfToken 3 (some .boolean) [vr X 31, vi p] M (Qi (fun r M1 => M1 = M ∧ ((r = 1 ∧ (M 32 p.toNat ≠ 32 ∧ (kdO (M 32 p.toNat) = 3 ∨ p = 0 ∨ kdO (M 32 (p - 1).toNat) ≠ kdO (M 32 p.toNat)))) ∨ (r = 0 ∧ ¬ (M 32 p.toNat ≠ 32 ∧ (kdO (M 32 p.toNat) = 3 ∨ p = 0 ∨ kdO (M 32 (p - 1).toNat) ≠ kdO (M 32 p.toNat))))))) := by
  refine Con.ofG rfl (Nat.le_of_ble_eq_true rfl) ?_
  show G X 1 RX8 cX8_isFirstOfToken 3 (some .boolean) (Qi (fun r M1 => M1 = M ∧ ((r = 1 ∧ (M 32 p.toNat ≠ 32 ∧ (kdO (M 32 p.toNat) = 3 ∨ p = 0 ∨ kdO (M 32 (p - 1).toNat) ≠ kdO (M 32 p.toNat)))) ∨ (r = 0 ∧ ¬ (M 32 p.toNat ≠ 32 ∧ (kdO (M 32 p.toNat) = 3 ∨ p = 0 ∨ kdO (M 32 (p - 1).toNat) ≠ kdO (M 32 p.toNat))))))) 0 [(0, vr X 31), (1, vi p)] [] M
  refine g_aload_n (pc' := 1) 0 dX8_isFirstOfToken_0 rfl rfl ?_
  refine g_getR (pc' := 4) dX8_isFirstOfToken_1 rfl f_X8_9 rfl rfl ?_
  refine g_iload_n (pc' := 5) 1 dX8_isFirstOfToken_4 rfl rfl ?_
  refine g_iald (pc' := 6) dX8_isFirstOfToken_5 rfl rfl (by omega) (by omega) (fun v1 ev1 rv1 => ?_)
  refine g_callSip (pc' := 9) (As := [vi v1]) (S := []) dX8_isFirstOfToken_6 rfl m_X8_41 w_X8_kindOf (c_X8_kindOf_x X M v1 rv1) rfl (by decide) (by decide) rfl (Nat.le_of_ble_eq_true rfl) (fun z3 q2 => ?_)
  have kz3 := kdO_c v1
  rw [← q2] at kz3
  rw [ev1] at q2
  refine g_istore_n (pc' := 10) (i := 2) (L' := [(2, vi z3), (0, vr X 31), (1, vi p)]) dX8_isFirstOfToken_9 rfl rfl (by decide) rfl ?_
  refine g_aload_n (pc' := 11) 1 dX8_isFirstOfToken_10 rfl rfl ?_
  refine g_getR (pc' := 14) dX8_isFirstOfToken_11 rfl f_X8_9 rfl rfl ?_
  refine g_iload_n (pc' := 15) 2 dX8_isFirstOfToken_14 rfl rfl ?_
  refine g_iald (pc' := 16) dX8_isFirstOfToken_15 rfl rfl (by omega) (by omega) (fun v4 ev4 rv4 => ?_)
  obtain rfl : v1 = v4 := ev1.trans ev4.symm
  refine g_bipush (pc' := 18) (v := 32) dX8_isFirstOfToken_16 rfl (by decide) ?_
  refine g_ic_ne (pc' := 21) (tgt := 23) rv1 (by decide) dX8_isFirstOfToken_18 rfl rfl (fun c5 => ?_) (fun c5 => ?_)
  · refine g_iload_n (pc' := 24) 0 dX8_isFirstOfToken_23 rfl rfl ?_
    refine g_iconst (pc' := 25) dX8_isFirstOfToken_24 rfl ?_
    refine g_ic_eq (pc' := 28) (tgt := 47) ⟨by omega, by omega⟩ (by decide) dX8_isFirstOfToken_25 rfl rfl (fun c6 => ?_) (fun c6 => ?_)
    · refine g_iconst (pc' := 48) dX8_isFirstOfToken_47 rfl ?_
      refine g_goto (tgt := 52) dX8_isFirstOfToken_48 rfl ?_
      refine g_zreturn dX8_isFirstOfToken_52 (by omega) ?_
      exact ⟨rfl, by omega⟩
    · refine g_iload_n (pc' := 29) 2 dX8_isFirstOfToken_28 rfl rfl ?_
      refine g_if_eq (pc' := 32) (tgt := 47) hp dX8_isFirstOfToken_29 rfl rfl (fun c7 => ?_) (fun c7 => ?_)
      · refine g_iconst (pc' := 48) dX8_isFirstOfToken_47 rfl ?_
        refine g_goto (tgt := 52) dX8_isFirstOfToken_48 rfl ?_
        refine g_zreturn dX8_isFirstOfToken_52 (by omega) ?_
        exact ⟨rfl, by omega⟩
      · refine g_aload_n (pc' := 33) 1 dX8_isFirstOfToken_32 rfl rfl ?_
        refine g_getR (pc' := 36) dX8_isFirstOfToken_33 rfl f_X8_9 rfl rfl ?_
        refine g_iload_n (pc' := 37) 2 dX8_isFirstOfToken_36 rfl rfl ?_
        refine g_iconst (pc' := 38) dX8_isFirstOfToken_37 rfl ?_
        refine g_isub (pc' := 39) dX8_isFirstOfToken_38 rfl ?_
        refine g_iald (pc' := 40) dX8_isFirstOfToken_39 rfl rfl (by omega) (by omega) (fun v8 ev8 rv8 => ?_)
        refine g_callSip (pc' := 43) (As := [vi v8]) (S := []) dX8_isFirstOfToken_40 rfl m_X8_41 w_X8_kindOf (c_X8_kindOf_x X M v8 rv8) rfl (by decide) (by decide) rfl (Nat.le_of_ble_eq_true rfl) (fun z10 q9 => ?_)
        have kz10 := kdO_c v8
        rw [← q9] at kz10
        rw [ev8] at q9
        refine g_iload_n (pc' := 44) 0 dX8_isFirstOfToken_43 rfl rfl ?_
        refine g_ic_eq (pc' := 47) (tgt := 51) ⟨by omega, by omega⟩ ⟨by omega, by omega⟩ dX8_isFirstOfToken_44 rfl rfl (fun c11 => ?_) (fun c11 => ?_)
        · refine g_iconst (pc' := 52) dX8_isFirstOfToken_51 rfl ?_
          refine g_zreturn dX8_isFirstOfToken_52 (by omega) ?_
          exact ⟨rfl, by omega⟩
        · refine g_iconst (pc' := 48) dX8_isFirstOfToken_47 rfl ?_
          refine g_goto (tgt := 52) dX8_isFirstOfToken_48 rfl ?_
          refine g_zreturn dX8_isFirstOfToken_52 (by omega) ?_
          exact ⟨rfl, by omega⟩
  · refine g_iconst (pc' := 22) dX8_isFirstOfToken_21 rfl ?_
    refine g_zreturn dX8_isFirstOfToken_22 (by omega) ?_
    exact ⟨rfl, by omega⟩
set_option maxHeartbeats 4000000 in
set_option maxRecDepth 100000 in
theorem c_X8_beginToken_x (X : Cx) (M : Mm) (hi : IC M) (p : Int) (hp : inI p) (k : Int) (hk : inI k) (hp2 : 0 ≤ p ∧ p ≤ 400) (ht : 0 ≤ M 31 6 ∧ M 31 6 ≤ 400) (hq : k ≠ 0 → p ≤ 399 ∧ M 31 6 ≤ 399) : Con X 0 yX8_beginToken cX8_beginToken 3 none [vr X 31, vi p, vi k] M (Qv (fun M1 => IC M1 ∧ Fr (fun c => c = 31 ∨ (33 ≤ c ∧ c ≤ 36)) M M1 ∧ M1 31 1 = M 31 1 ∧ M1 31 7 = M 31 7 ∧ (M1 31 6 = M 31 6 + 1 ∧ id (M1 33 = ms (M 33) (M 31 6).toNat k ∧ M1 34 = ms (M 34) (M 31 6).toNat p ∧ M1 35 = ms (M 35) (M 31 6).toNat p ∧ M1 36 = ms (M 36) (M 31 6).toNat 0)))) := by
  refine Con.ofG rfl (Nat.le_of_ble_eq_true rfl) ?_
  show G X 0 RX8 cX8_beginToken 3 none (Qv (fun M1 => IC M1 ∧ Fr (fun c => c = 31 ∨ (33 ≤ c ∧ c ≤ 36)) M M1 ∧ M1 31 1 = M 31 1 ∧ M1 31 7 = M 31 7 ∧ (M1 31 6 = M 31 6 + 1 ∧ id (M1 33 = ms (M 33) (M 31 6).toNat k ∧ M1 34 = ms (M 34) (M 31 6).toNat p ∧ M1 35 = ms (M 35) (M 31 6).toNat p ∧ M1 36 = ms (M 36) (M 31 6).toNat 0)))) 0 [(0, vr X 31), (1, vi p), (2, vi k)] [] M
  refine g_aload_n (pc' := 1) 0 dX8_beginToken_0 rfl rfl ?_
  refine g_getR (pc' := 4) dX8_beginToken_1 rfl f_X8_15 rfl rfl ?_
  refine g_aload_n (pc' := 5) 0 dX8_beginToken_4 rfl rfl ?_
  refine g_getI (pc' := 8) dX8_beginToken_5 rfl f_X8_31 rfl rfl (fun v1 ev1 rv1 => ?_)
  have av1 : v1 = M 31 6 := ev1
  refine g_iload_n (pc' := 9) 2 dX8_beginToken_8 rfl rfl ?_
  refine g_iast (pc' := 10) dX8_beginToken_9 rfl rfl (by omega) (by omega) hk (fun M2 hM2 => ?_)
  have fM2 : Fr (fun c => c = 31 ∨ (33 ≤ c ∧ c ≤ 36)) M M2 := Fr.wr Fr.rf hM2 (by first | decide | omega | (dsimp only; omega))
  have q31_1_M2 : M2 31 1 = M 31 1 := (show M2 31 1 = M 31 1 by rw [hM2]; exact mu_ne _ _ (by first | decide | omega))
  have q31_7_M2 : M2 31 7 = M 31 7 := (show M2 31 7 = M 31 7 by rw [hM2]; exact mu_ne _ _ (by first | decide | omega))
  have q31_6_M2 : M2 31 6 = M 31 6 := (show M2 31 6 = M 31 6 by rw [hM2]; exact mu_ne _ _ (by first | decide | omega))
  refine g_aload_n (pc' := 11) 0 dX8_beginToken_10 rfl rfl ?_
  refine g_getR (pc' := 14) dX8_beginToken_11 rfl f_X8_18 rfl rfl ?_
  refine g_aload_n (pc' := 15) 0 dX8_beginToken_14 rfl rfl ?_
  refine g_getI (pc' := 18) dX8_beginToken_15 rfl f_X8_31 rfl rfl (fun v3 ev3 rv3 => ?_)
  have av3 : v3 = M 31 6 := ev3.trans q31_6_M2
  obtain rfl : v1 = v3 := av1.trans av3.symm
  refine g_iload_n (pc' := 19) 1 dX8_beginToken_18 rfl rfl ?_
  refine g_iast (pc' := 20) dX8_beginToken_19 rfl rfl (by omega) (by omega) hp (fun M4 hM4 => ?_)
  have fM4 : Fr (fun c => c = 31 ∨ (33 ≤ c ∧ c ≤ 36)) M M4 := Fr.wr fM2 hM4 (by first | decide | omega | (dsimp only; omega))
  have q31_1_M4 : M4 31 1 = M 31 1 := (show M4 31 1 = M2 31 1 by rw [hM4]; exact mu_ne _ _ (by first | decide | omega)).trans q31_1_M2
  have q31_7_M4 : M4 31 7 = M 31 7 := (show M4 31 7 = M2 31 7 by rw [hM4]; exact mu_ne _ _ (by first | decide | omega)).trans q31_7_M2
  have q31_6_M4 : M4 31 6 = M 31 6 := (show M4 31 6 = M2 31 6 by rw [hM4]; exact mu_ne _ _ (by first | decide | omega)).trans q31_6_M2
  refine g_aload_n (pc' := 21) 0 dX8_beginToken_20 rfl rfl ?_
  refine g_getR (pc' := 24) dX8_beginToken_21 rfl f_X8_21 rfl rfl ?_
  refine g_aload_n (pc' := 25) 0 dX8_beginToken_24 rfl rfl ?_
  refine g_getI (pc' := 28) dX8_beginToken_25 rfl f_X8_31 rfl rfl (fun v5 ev5 rv5 => ?_)
  have av5 : v5 = M 31 6 := ev5.trans q31_6_M4
  obtain rfl : v1 = v5 := av1.trans av5.symm
  refine g_iload_n (pc' := 29) 1 dX8_beginToken_28 rfl rfl ?_
  refine g_iast (pc' := 30) dX8_beginToken_29 rfl rfl (by omega) (by omega) hp (fun M6 hM6 => ?_)
  have fM6 : Fr (fun c => c = 31 ∨ (33 ≤ c ∧ c ≤ 36)) M M6 := Fr.wr fM4 hM6 (by first | decide | omega | (dsimp only; omega))
  have q31_1_M6 : M6 31 1 = M 31 1 := (show M6 31 1 = M4 31 1 by rw [hM6]; exact mu_ne _ _ (by first | decide | omega)).trans q31_1_M4
  have q31_7_M6 : M6 31 7 = M 31 7 := (show M6 31 7 = M4 31 7 by rw [hM6]; exact mu_ne _ _ (by first | decide | omega)).trans q31_7_M4
  have q31_6_M6 : M6 31 6 = M 31 6 := (show M6 31 6 = M4 31 6 by rw [hM6]; exact mu_ne _ _ (by first | decide | omega)).trans q31_6_M4
  refine g_aload_n (pc' := 31) 0 dX8_beginToken_30 rfl rfl ?_
  refine g_getR (pc' := 34) dX8_beginToken_31 rfl f_X8_24 rfl rfl ?_
  refine g_aload_n (pc' := 35) 0 dX8_beginToken_34 rfl rfl ?_
  refine g_getI (pc' := 38) dX8_beginToken_35 rfl f_X8_31 rfl rfl (fun v7 ev7 rv7 => ?_)
  have av7 : v7 = M 31 6 := ev7.trans q31_6_M6
  obtain rfl : v1 = v7 := av1.trans av7.symm
  refine g_iconst (pc' := 39) dX8_beginToken_38 rfl ?_
  refine g_iast (pc' := 40) dX8_beginToken_39 rfl rfl (by omega) (by omega) (by decide) (fun M8 hM8 => ?_)
  have fM8 : Fr (fun c => c = 31 ∨ (33 ≤ c ∧ c ≤ 36)) M M8 := Fr.wr fM6 hM8 (by first | decide | omega | (dsimp only; omega))
  have q31_1_M8 : M8 31 1 = M 31 1 := (show M8 31 1 = M6 31 1 by rw [hM8]; exact mu_ne _ _ (by first | decide | omega)).trans q31_1_M6
  have q31_7_M8 : M8 31 7 = M 31 7 := (show M8 31 7 = M6 31 7 by rw [hM8]; exact mu_ne _ _ (by first | decide | omega)).trans q31_7_M6
  have q31_6_M8 : M8 31 6 = M 31 6 := (show M8 31 6 = M6 31 6 by rw [hM8]; exact mu_ne _ _ (by first | decide | omega)).trans q31_6_M6
  refine g_aload_n (pc' := 41) 0 dX8_beginToken_40 rfl rfl ?_
  refine g_dup (pc' := 42) dX8_beginToken_41 rfl rfl ?_
  refine g_getI (pc' := 45) dX8_beginToken_42 rfl f_X8_31 rfl rfl (fun v9 ev9 rv9 => ?_)
  have av9 : v9 = M 31 6 := ev9.trans q31_6_M8
  obtain rfl : v1 = v9 := av1.trans av9.symm
  refine g_iconst (pc' := 46) dX8_beginToken_45 rfl ?_
  refine g_iadd (pc' := 47) dX8_beginToken_46 rfl ?_
  refine g_putI (pc' := 50) dX8_beginToken_47 rfl p_X8_31 rfl rfl ⟨by omega, by omega⟩ (fun M10 hM10 => ?_)
  have fM10 : Fr (fun c => c = 31 ∨ (33 ≤ c ∧ c ≤ 36)) M M10 := Fr.wr fM8 hM10 (by first | decide | omega | (dsimp only; omega))
  have q31_1_M10 : M10 31 1 = M 31 1 := (show M10 31 1 = M8 31 1 by rw [hM10]; exact mu_ne _ _ (by first | decide | omega)).trans q31_1_M8
  have q31_7_M10 : M10 31 7 = M 31 7 := (show M10 31 7 = M8 31 7 by rw [hM10]; exact mu_ne _ _ (by first | decide | omega)).trans q31_7_M8
  have xM10 : M10 31 6 = v1 + 1 := by rw [hM10]; exact mu_at _ _ _ _
  have iM10 : IC M10 := IC.begin hi (by omega) hp2 (fun z => ⟨(hq z).1, by have := (hq z).2; omega⟩) hM2 hM4 hM6 hM8 hM10
  refine g_vreturn dX8_beginToken_50 ?_
  exact ⟨iM10, fM10, q31_1_M10, q31_7_M10, ⟨by omega, show M10 33 = ms (M 33) (M 31 6).toNat k ∧ M10 34 = ms (M 34) (M 31 6).toNat p ∧ M10 35 = ms (M 35) (M 31 6).toNat p ∧ M10 36 = ms (M 36) (M 31 6).toNat 0 from ⟨by rw [hM10, mu_cell _ _ (by decide), hM8, mu_cell _ _ (by decide), hM6, mu_cell _ _ (by decide), hM4, mu_cell _ _ (by decide), hM2, mu_is, ← av1], by rw [hM10, mu_cell _ _ (by decide), hM8, mu_cell _ _ (by decide), hM6, mu_cell _ _ (by decide), hM4, mu_is, hM2, mu_cell _ _ (by decide), ← av1], by rw [hM10, mu_cell _ _ (by decide), hM8, mu_cell _ _ (by decide), hM6, mu_is, hM4, mu_cell _ _ (by decide), hM2, mu_cell _ _ (by decide), ← av1], by rw [hM10, mu_cell _ _ (by decide), hM8, mu_is, hM6, mu_cell _ _ (by decide), hM4, mu_cell _ _ (by decide), hM2, mu_cell _ _ (by decide), ← av1]⟩⟩⟩
set_option maxHeartbeats 4000000 in
set_option maxRecDepth 100000 in
theorem c_X8_growToken_x (X : Cx) (M : Mm) (hi : IC M) (t : Int) (ht : inI t) (p : Int) (hp : inI p) (ht2 : 0 ≤ t ∧ t ≤ 400) (hp2 : 0 ≤ p ∧ p ≤ 399) (gb : 0 ≤ M 32 p.toNat ∧ M 32 p.toNat ≤ 255) (gv : M 33 t.toNat = 2 → 0 ≤ M 36 t.toNat ∧ M 36 t.toNat ≤ 1001) : Con X 1 yX8_growToken cX8_growToken 3 none [vr X 31, vi t, vi p] M (Qv (fun M1 => IC M1 ∧ Fr (fun c => c = 35 ∨ c = 36) M M1 ∧ M1 31 1 = M 31 1 ∧ M1 31 7 = M 31 7 ∧ M1 31 6 = M 31 6 ∧ (id (M1 35 = ms (M 35) t.toNat (p + 1) ∧ (M 33 t.toNat ≠ 2 → M1 36 = M 36) ∧ (M 33 t.toNat = 2 → M1 36 = ms (M 36) t.toNat (if M 36 t.toNat * 10 + M 32 p.toNat - 48 < 1001 then M 36 t.toNat * 10 + M 32 p.toNat - 48 else 1001)))))) := by
  refine Con.ofG rfl (Nat.le_of_ble_eq_true rfl) ?_
  show G X 1 RX8 cX8_growToken 3 none (Qv (fun M1 => IC M1 ∧ Fr (fun c => c = 35 ∨ c = 36) M M1 ∧ M1 31 1 = M 31 1 ∧ M1 31 7 = M 31 7 ∧ M1 31 6 = M 31 6 ∧ (id (M1 35 = ms (M 35) t.toNat (p + 1) ∧ (M 33 t.toNat ≠ 2 → M1 36 = M 36) ∧ (M 33 t.toNat = 2 → M1 36 = ms (M 36) t.toNat (if M 36 t.toNat * 10 + M 32 p.toNat - 48 < 1001 then M 36 t.toNat * 10 + M 32 p.toNat - 48 else 1001)))))) 0 [(0, vr X 31), (1, vi t), (2, vi p)] [] M
  refine g_aload_n (pc' := 1) 0 dX8_growToken_0 rfl rfl ?_
  refine g_getR (pc' := 4) dX8_growToken_1 rfl f_X8_21 rfl rfl ?_
  refine g_iload_n (pc' := 5) 1 dX8_growToken_4 rfl rfl ?_
  refine g_iload_n (pc' := 6) 2 dX8_growToken_5 rfl rfl ?_
  refine g_iconst (pc' := 7) dX8_growToken_6 rfl ?_
  refine g_iadd (pc' := 8) dX8_growToken_7 rfl ?_
  refine g_iast (pc' := 9) dX8_growToken_8 rfl rfl (by omega) (by omega) ⟨by omega, by omega⟩ (fun M1 hM1 => ?_)
  have fM1 : Fr (fun c => c = 35 ∨ c = 36) M M1 := Fr.wr Fr.rf hM1 (by first | decide | omega | (dsimp only; omega))
  have q31_1_M1 : id (M1 31 1 = M 31 1) := (show M1 31 1 = M 31 1 by rw [hM1]; exact mu_ne _ _ (by first | decide | omega))
  have q31_7_M1 : id (M1 31 7 = M 31 7) := (show M1 31 7 = M 31 7 by rw [hM1]; exact mu_ne _ _ (by first | decide | omega))
  have q31_6_M1 : id (M1 31 6 = M 31 6) := (show M1 31 6 = M 31 6 by rw [hM1]; exact mu_ne _ _ (by first | decide | omega))
  have iM1 : IC M1 := IC.w35 hi hM1 (by omega)
  refine g_aload_n (pc' := 10) 0 dX8_growToken_9 rfl rfl ?_
  refine g_getR (pc' := 13) dX8_growToken_10 rfl f_X8_15 rfl rfl ?_
  refine g_iload_n (pc' := 14) 1 dX8_growToken_13 rfl rfl ?_
  refine g_iald (pc' := 15) dX8_growToken_14 rfl rfl (by omega) (by omega) (fun v2 ev2 rv2 => ?_)
  have gv2 : v2 = M 33 t.toNat := by rw [ev2, hM1, mu_cell _ _ (by decide)]
  refine g_iconst (pc' := 16) dX8_growToken_15 rfl ?_
  refine g_ic_ne (pc' := 19) (tgt := 50) rv2 (by decide) dX8_growToken_16 rfl rfl (fun c3 => ?_) (fun c3 => ?_)
  · refine g_vreturn dX8_growToken_50 ?_
    exact ⟨iM1, fM1, q31_1_M1, q31_7_M1, q31_6_M1, show M1 35 = ms (M 35) t.toNat (p + 1) ∧ (M 33 t.toNat ≠ 2 → M1 36 = M 36) ∧ (M 33 t.toNat = 2 → M1 36 = ms (M 36) t.toNat (if M 36 t.toNat * 10 + M 32 p.toNat - 48 < 1001 then M 36 t.toNat * 10 + M 32 p.toNat - 48 else 1001)) from ⟨by rw [hM1, mu_is], fun _ => by rw [hM1, mu_cell _ _ (by decide)], fun z => absurd z (by omega)⟩⟩
  · refine g_aload_n (pc' := 20) 0 dX8_growToken_19 rfl rfl ?_
    refine g_getR (pc' := 23) dX8_growToken_20 rfl f_X8_24 rfl rfl ?_
    refine g_iload_n (pc' := 24) 1 dX8_growToken_23 rfl rfl ?_
    refine g_aload_n (pc' := 25) 0 dX8_growToken_24 rfl rfl ?_
    refine g_getR (pc' := 28) dX8_growToken_25 rfl f_X8_24 rfl rfl ?_
    refine g_iload_n (pc' := 29) 1 dX8_growToken_28 rfl rfl ?_
    refine g_iald (pc' := 30) dX8_growToken_29 rfl rfl (by omega) (by omega) (fun v4 ev4 rv4 => ?_)
    have gv4 : v4 = M 36 t.toNat := by rw [ev4, hM1, mu_cell _ _ (by decide)]
    refine g_bipush (pc' := 32) (v := 10) dX8_growToken_30 rfl (by decide) ?_
    refine g_imul (pc' := 33) dX8_growToken_32 rfl ?_
    refine g_aload_n (pc' := 34) 0 dX8_growToken_33 rfl rfl ?_
    refine g_getR (pc' := 37) dX8_growToken_34 rfl f_X8_9 rfl rfl ?_
    refine g_iload_n (pc' := 38) 2 dX8_growToken_37 rfl rfl ?_
    refine g_iald (pc' := 39) dX8_growToken_38 rfl rfl (by omega) (by omega) (fun v5 ev5 rv5 => ?_)
    have gv5 : v5 = M 32 p.toNat := by rw [ev5, hM1, mu_cell _ _ (by decide)]
    refine g_iadd (pc' := 40) dX8_growToken_39 rfl ?_
    refine g_bipush (pc' := 42) (v := 48) dX8_growToken_40 rfl (by decide) ?_
    refine g_isub (pc' := 43) dX8_growToken_42 rfl ?_
    refine g_sipush (pc' := 46) (v := 1001) dX8_growToken_43 rfl (by decide) ?_
    refine g_mmin (pc' := 49) dX8_growToken_46 rfl m_X8_52 ms_min mi_Math mc_min (by decide) (Nat.le_of_ble_eq_true rfl) ⟨by omega, by omega⟩ (by decide) ?_
    obtain ⟨v6, ev6⟩ : ∃ z : Int, z = if 1001 < ((v4 * 10) + v5) - 48 then 1001 else ((v4 * 10) + v5) - 48 := ⟨_, rfl⟩
    rw [← ev6]
    refine g_iast (pc' := 50) dX8_growToken_49 rfl rfl (by omega) (by omega) ⟨by omega, by omega⟩ (fun M7 hM7 => ?_)
    have iM7 : IC M7 := IC.wr iM1 hM7 (by unfold okw isT; first | decide | omega)
    have fM7 : Fr (fun c => c = 35 ∨ c = 36) M M7 := Fr.wr fM1 hM7 (by first | decide | omega | (dsimp only; omega))
    have q31_1_M7 : id (M7 31 1 = M 31 1) := (show M7 31 1 = M1 31 1 by rw [hM7]; exact mu_ne _ _ (by first | decide | omega)).trans q31_1_M1
    have q31_7_M7 : id (M7 31 7 = M 31 7) := (show M7 31 7 = M1 31 7 by rw [hM7]; exact mu_ne _ _ (by first | decide | omega)).trans q31_7_M1
    have q31_6_M7 : id (M7 31 6 = M 31 6) := (show M7 31 6 = M1 31 6 by rw [hM7]; exact mu_ne _ _ (by first | decide | omega)).trans q31_6_M1
    refine g_vreturn dX8_growToken_50 ?_
    exact ⟨iM7, fM7, q31_1_M7, q31_7_M7, q31_6_M7, show M7 35 = ms (M 35) t.toNat (p + 1) ∧ (M 33 t.toNat ≠ 2 → M7 36 = M 36) ∧ (M 33 t.toNat = 2 → M7 36 = ms (M 36) t.toNat (if M 36 t.toNat * 10 + M 32 p.toNat - 48 < 1001 then M 36 t.toNat * 10 + M 32 p.toNat - 48 else 1001)) from ⟨by rw [hM7, mu_cell _ _ (by decide), hM1, mu_is], fun z => absurd z (by omega), fun _ => by rw [hM7, mu_is, hM1, mu_cell _ _ (by decide), ev6, gv4, gv5]; exact congrArg _ (g5m _)⟩⟩
set_option maxHeartbeats 4000000 in
set_option maxRecDepth 100000 in
theorem l_X8_cut_x_12 (X : Cx) (M : Mm) (hi : IC M) (gb : ∀ j : Nat, (j : Int) < M 31 1 → 0 ≤ M 32 j ∧ M 32 j ≤ 255) : ∀ (kk : Nat) (p : Int) (M1 : Mm) (ic1 : IC M1) (fr1 : Fr (fun c => c = 31 ∨ (33 ≤ c ∧ c ≤ 36)) M M1) (q31_1 : id (M1 31 1 = M 31 1)) (p0 : 0 ≤ p ∧ p ≤ M 31 1) (a7 : M1 31 7 = 0) (t0 : 0 ≤ M1 31 6 ∧ M1 31 6 ≤ p) (tz : TZc (M 32) p (M1 33) (M1 34) (M1 35) (M1 36) (M1 31 6).toNat), (401 - p).toNat = kk → G X 2 RX8 cX8_cut 2 none (Qv (fun M1 => IC M1 ∧ Fr (fun c => c = 31 ∨ (33 ≤ c ∧ c ≤ 36)) M M1 ∧ M1 31 1 = M 31 1 ∧ (M1 31 7 = 0 ∧ (1 ≤ M1 31 6 ∧ M1 31 6 ≤ M 31 1 + 1) ∧ id (TZ (M 32) (M 31 1) (M1 33) (fun i => wof (M 32) (M1 33 i) (M1 34 i) (M1 35 i)) (M1 34) (M1 35) (M1 31 6 - 1).toNat ∧ ∀ i : Nat, i < (M1 31 6 - 1).toNat → M1 33 i = 2 → cap (M1 36 i) (wof (M 32) (M1 33 i) (M1 34 i) (M1 35 i)))))) 12 [(1, vi p), (0, vr X 31)] [] M1 := by
  intro kk
  induction kk using Nat.strongRecOn with
  | ind kk ih =>
    intro p M1 ic1 fr1 q31_1 p0 a7 t0 tz hmes
    have hl := hi.2.2.1.1
    refine g_iload_n (pc' := 13) 0 dX8_cut_12 rfl rfl ?_
    refine g_aload_n (pc' := 14) 1 dX8_cut_13 rfl rfl ?_
    refine g_getI (pc' := 17) dX8_cut_14 rfl f_X8_27 rfl rfl (fun v1 ev1 rv1 => ?_)
    have bv1 : 0 ≤ v1 ∧ v1 ≤ 400 := by rw [ev1]; exact ic1.2.2.1.1
    have av1 : v1 = M 31 1 := ev1.trans q31_1
    refine g_ic_ge (pc' := 20) (tgt := 77) ⟨by omega, by omega⟩ rv1 dX8_cut_17 rfl rfl (fun c2 => ?_) (fun c2 => ?_)
    · refine g_aload_n (pc' := 78) 1 dX8_cut_77 rfl rfl ?_
      refine g_aload_n (pc' := 79) 1 dX8_cut_78 rfl rfl ?_
      refine g_getI (pc' := 82) dX8_cut_79 rfl f_X8_27 rfl rfl (fun v3 ev3 rv3 => ?_)
      obtain rfl : v1 = v3 := ev1.trans ev3.symm
      refine g_iconst (pc' := 83) dX8_cut_82 rfl ?_
      refine g_callVv (pc' := 86) (As := [vi v1, vi 0]) (b := 31) (S := []) dX8_cut_83 rfl m_X8_45 w_X8_beginToken (c_X8_beginToken_x X M1 ic1 v1 rv1 0 (by decide) (by omega) (by omega) (by omega)) rfl ⟨_, _, _, rfl, rfl, rfl⟩ (by decide) (by decide) rfl (Nat.le_of_ble_eq_true rfl) (fun M5 q4 => ?_)
      obtain ⟨iM5, fM50, eM5_31_1, eM5_31_7, pM5⟩ := q4
      have fM5 : Fr (fun c => c = 31 ∨ (33 ≤ c ∧ c ≤ 36)) M M5 := Fr.tr fr1 fM50 (fun _ z => z)
      have q31_1_M5 : id (M5 31 1 = M 31 1) := eM5_31_1.trans q31_1
      have wM5_31_7 : M5 31 7 = M1 31 7 := eM5_31_7
      clear eM5_31_1
      have b4M5 : M5 33 = ms (M1 33) (M1 31 6).toNat 0 ∧ M5 34 = ms (M1 34) (M1 31 6).toNat v1 ∧ M5 35 = ms (M1 35) (M1 31 6).toNat v1 ∧ M5 36 = ms (M1 36) (M1 31 6).toNat 0 := pM5.2
      replace pM5 := pM5.1
      refine g_vreturn dX8_cut_86 ?_
      exact ⟨iM5, fM5, q31_1_M5, ⟨by omega, by omega, show TZ (M 32) (M 31 1) (M5 33) (fun i => wof (M 32) (M5 33 i) (M5 34 i) (M5 35 i)) (M5 34) (M5 35) (M5 31 6 - 1).toNat ∧ _ by
          have pe : p = M 31 1 := by omega
          rw [show (M5 31 6 - 1).toNat = (M1 31 6).toNat by omega]
          rw [pe] at tz
          exact TZc.fin tz (by omega) b4M5.1 (by rw [b4M5.2.1]; congr 1 <;> omega) (by rw [b4M5.2.2.1]; congr 1 <;> omega) b4M5.2.2.2⟩⟩
    · refine g_aload_n (pc' := 21) 1 dX8_cut_20 rfl rfl ?_
      refine g_iload_n (pc' := 22) 0 dX8_cut_21 rfl rfl ?_
      refine g_callVip (pc' := 25) (As := [vi p]) (b := 31) (S := []) dX8_cut_22 rfl m_X8_37 w_X8_isFirstOfToken (c_X8_isFirstOfToken_x X M1 ic1 p ⟨by omega, by omega⟩ ⟨by omega, by omega⟩) rfl ⟨_, _, _, rfl, rfl, rfl⟩ (by decide) (by decide) rfl (Nat.le_of_ble_eq_true rfl) (fun z7 q6 => ?_)
      have e32 : M1 32 = M 32 := fr1 32 (by decide)
      rw [e32] at q6
      refine g_if_eq (pc' := 28) (tgt := 42) ⟨by omega, by omega⟩ dX8_cut_25 rfl rfl (fun c8 => ?_) (fun c8 => ?_)
      · replace q6 := q6.resolve_left (fun h => absurd (c8.symm.trans h.1) (by decide))
        refine g_aload_n (pc' := 43) 1 dX8_cut_42 rfl rfl ?_
        refine g_getR (pc' := 46) dX8_cut_43 rfl f_X8_9 rfl rfl ?_
        refine g_iload_n (pc' := 47) 0 dX8_cut_46 rfl rfl ?_
        refine g_iald (pc' := 48) dX8_cut_47 rfl rfl (by omega) (by omega) (fun v9 ev9 rv9 => ?_)
        have gv9 : v9 = M 32 p.toNat := by rw [ev9, fr1 32 (by decide)]
        refine g_bipush (pc' := 50) (v := 32) dX8_cut_48 rfl (by decide) ?_
        refine g_ic_eq (pc' := 53) (tgt := 71) rv9 (by decide) dX8_cut_50 rfl rfl (fun c10 => ?_) (fun c10 => ?_)
        · refine g_iinc (pc' := 74) (L' := [(1, vi (p + 1)), (0, vr X 31)]) 0 dX8_cut_71 rfl rfl (by decide) rfl ?_
          refine g_goto (tgt := 12) dX8_cut_74 rfl ?_
          refine g_sub [0, 1] rfl ?_
          exact ih _ (by omega) (p + 1) M1 ic1 fr1 q31_1 (by omega) (by omega) (by omega) (by first | exact TZc.blank tz (by omega) (by omega) | exact False.elim (by have z := (TZc.grow tz (by omega) (by omega) (by omega) (by omega)).1; omega)) rfl
        · refine g_aload_n (pc' := 54) 1 dX8_cut_53 rfl rfl ?_
          refine g_getI (pc' := 57) dX8_cut_54 rfl f_X8_31 rfl rfl (fun v11 ev11 rv11 => ?_)
          refine g_if_le (pc' := 60) (tgt := 71) rv11 dX8_cut_57 rfl rfl (fun c12 => ?_) (fun c12 => ?_)
          · refine g_iinc (pc' := 74) (L' := [(1, vi (p + 1)), (0, vr X 31)]) 0 dX8_cut_71 rfl rfl (by decide) rfl ?_
            refine g_goto (tgt := 12) dX8_cut_74 rfl ?_
            refine g_sub [0, 1] rfl ?_
            exact ih _ (by omega) (p + 1) M1 ic1 fr1 q31_1 (by omega) (by omega) (by omega) (by first | exact TZc.blank tz (by omega) (by omega) | exact False.elim (by have z := (TZc.grow tz (by omega) (by omega) (by omega) (by omega)).1; omega)) rfl
          · have zo : TZo (M 32) p (M1 33) (M1 34) (M1 35) (M1 36) (M1 31 6).toNat := TZc.grow tz (by omega) (by omega) (by omega) (by omega)
            refine g_aload_n (pc' := 61) 1 dX8_cut_60 rfl rfl ?_
            refine g_aload_n (pc' := 62) 1 dX8_cut_61 rfl rfl ?_
            refine g_getI (pc' := 65) dX8_cut_62 rfl f_X8_31 rfl rfl (fun v13 ev13 rv13 => ?_)
            obtain rfl : v11 = v13 := ev11.trans ev13.symm
            refine g_iconst (pc' := 66) dX8_cut_65 rfl ?_
            refine g_isub (pc' := 67) dX8_cut_66 rfl ?_
            refine g_iload_n (pc' := 68) 0 dX8_cut_67 rfl rfl ?_
            refine g_callVv (pc' := 71) (As := [vi (v11 - 1), vi p]) (b := 31) (S := []) dX8_cut_68 rfl m_X8_49 w_X8_growToken (c_X8_growToken_x X M1 ic1 (v11 - 1) ⟨by omega, by omega⟩ p ⟨by omega, by omega⟩ (by omega) (by omega) (by rw [fr1 32 (by decide)]; exact gb p.toNat (by omega)) (by rw [show (v11 - 1).toNat = (M1 31 6).toNat - 1 by omega]; exact zo.vb)) rfl ⟨_, _, _, rfl, rfl, rfl⟩ (by decide) (by decide) rfl (Nat.le_of_ble_eq_true rfl) (fun M15 q14 => ?_)
            obtain ⟨iM15, fM150, eM15_31_1, eM15_31_7, eM15_31_6, pM15⟩ := q14
            have fM15 : Fr (fun c => c = 31 ∨ (33 ≤ c ∧ c ≤ 36)) M M15 := Fr.tr fr1 fM150 fi_58
            have q31_1_M15 : id (M15 31 1 = M 31 1) := eM15_31_1.trans q31_1
            have wM15_31_6 : M15 31 6 = M1 31 6 := eM15_31_6
            have wM15_31_7 : M15 31 7 = M1 31 7 := eM15_31_7
            clear eM15_31_1
            have grM15 := pM15
            clear pM15
            have tzM15 : TZc (M 32) (p + 1) (M15 33) (M15 34) (M15 35) (M15 36) (M15 31 6).toNat := by
              have g : M15 35 = ms (M1 35) (v11 - 1).toNat (p + 1) ∧ (M1 33 (v11 - 1).toNat ≠ 2 → M15 36 = M1 36) ∧ (M1 33 (v11 - 1).toNat = 2 → M15 36 = ms (M1 36) (v11 - 1).toNat (if M1 36 (v11 - 1).toNat * 10 + M1 32 p.toNat - 48 < 1001 then M1 36 (v11 - 1).toNat * 10 + M1 32 p.toNat - 48 else 1001)) := grM15
              rw [show (v11 - 1).toNat = (M1 31 6).toNat - 1 by omega, show M1 32 = M 32 from fr1 32 (by decide)] at g
              rw [fM150 33 (by decide), fM150 34 (by decide), show M15 31 6 = M1 31 6 by omega]
              exact TZo.take zo (by omega) g.1 g.2
            refine g_iinc (pc' := 74) (L' := [(1, vi (p + 1)), (0, vr X 31)]) 0 dX8_cut_71 rfl rfl (by decide) rfl ?_
            refine g_goto (tgt := 12) dX8_cut_74 rfl ?_
            refine g_sub [0, 1] rfl ?_
            exact ih _ (by omega) (p + 1) M15 iM15 fM15 q31_1_M15 (by omega) (by omega) (by omega) tzM15 rfl
      · replace q6 := q6.resolve_right (fun h => c8 h.1)
        refine g_aload_n (pc' := 29) 1 dX8_cut_28 rfl rfl ?_
        refine g_iload_n (pc' := 30) 0 dX8_cut_29 rfl rfl ?_
        refine g_aload_n (pc' := 31) 1 dX8_cut_30 rfl rfl ?_
        refine g_getR (pc' := 34) dX8_cut_31 rfl f_X8_9 rfl rfl ?_
        refine g_iload_n (pc' := 35) 0 dX8_cut_34 rfl rfl ?_
        refine g_iald (pc' := 36) dX8_cut_35 rfl rfl (by omega) (by omega) (fun v16 ev16 rv16 => ?_)
        have gv16 : v16 = M 32 p.toNat := by rw [ev16, fr1 32 (by decide)]
        refine g_callSip (pc' := 39) (As := [vi v16]) (S := [vi p, vr X 31]) dX8_cut_36 rfl m_X8_41 w_X8_kindOf (c_X8_kindOf_x X M1 v16 rv16) rfl (by decide) (by decide) rfl (Nat.le_of_ble_eq_true rfl) (fun z18 q17 => ?_)
        rw [gv16] at q17
        have kcz18 := kdO_c (M 32 p.toNat)
        rw [← q17] at kcz18
        refine g_callVv (pc' := 42) (As := [vi p, vi z18]) (b := 31) (S := []) dX8_cut_39 rfl m_X8_45 w_X8_beginToken (c_X8_beginToken_x X M1 ic1 p ⟨by omega, by omega⟩ z18 ⟨by omega, by omega⟩ (by omega) (by omega) (by omega)) rfl ⟨_, _, _, rfl, rfl, rfl⟩ (by decide) (by decide) rfl (Nat.le_of_ble_eq_true rfl) (fun M20 q19 => ?_)
        obtain ⟨iM20, fM200, eM20_31_1, eM20_31_7, pM20⟩ := q19
        have fM20 : Fr (fun c => c = 31 ∨ (33 ≤ c ∧ c ≤ 36)) M M20 := Fr.tr fr1 fM200 (fun _ z => z)
        have q31_1_M20 : id (M20 31 1 = M 31 1) := eM20_31_1.trans q31_1
        have wM20_31_7 : M20 31 7 = M1 31 7 := eM20_31_7
        clear eM20_31_1
        have b4M20 : M20 33 = ms (M1 33) (M1 31 6).toNat z18 ∧ M20 34 = ms (M1 34) (M1 31 6).toNat p ∧ M20 35 = ms (M1 35) (M1 31 6).toNat p ∧ M20 36 = ms (M1 36) (M1 31 6).toNat 0 := pM20.2
        replace pM20 := pM20.1
        refine g_aload_n (pc' := 43) 1 dX8_cut_42 rfl rfl ?_
        refine g_getR (pc' := 46) dX8_cut_43 rfl f_X8_9 rfl rfl ?_
        refine g_iload_n (pc' := 47) 0 dX8_cut_46 rfl rfl ?_
        refine g_iald (pc' := 48) dX8_cut_47 rfl rfl (by omega) (by omega) (fun v21 ev21 rv21 => ?_)
        have gv21 : v21 = M 32 p.toNat := by rw [ev21, fM20 32 (by decide)]
        refine g_bipush (pc' := 50) (v := 32) dX8_cut_48 rfl (by decide) ?_
        refine g_ic_eq (pc' := 53) (tgt := 71) rv21 (by decide) dX8_cut_50 rfl rfl (fun c22 => ?_) (fun c22 => ?_)
        · refine g_iinc (pc' := 74) (L' := [(1, vi (p + 1)), (0, vr X 31)]) 0 dX8_cut_71 rfl rfl (by decide) rfl ?_
          refine g_goto (tgt := 12) dX8_cut_74 rfl ?_
          refine g_sub [0, 1] rfl ?_
          exact ih _ (by omega) (p + 1) M20 iM20 fM20 q31_1_M20 (by omega) (by omega) (by omega) (False.elim (by omega)) rfl
        · refine g_aload_n (pc' := 54) 1 dX8_cut_53 rfl rfl ?_
          refine g_getI (pc' := 57) dX8_cut_54 rfl f_X8_31 rfl rfl (fun v23 ev23 rv23 => ?_)
          refine g_if_le (pc' := 60) (tgt := 71) rv23 dX8_cut_57 rfl rfl (fun c24 => ?_) (fun c24 => ?_)
          · refine g_iinc (pc' := 74) (L' := [(1, vi (p + 1)), (0, vr X 31)]) 0 dX8_cut_71 rfl rfl (by decide) rfl ?_
            refine g_goto (tgt := 12) dX8_cut_74 rfl ?_
            refine g_sub [0, 1] rfl ?_
            exact ih _ (by omega) (p + 1) M20 iM20 fM20 q31_1_M20 (by omega) (by omega) (by omega) (False.elim (by omega)) rfl
          · have zo : TZo (M 32) p (M20 33) (M20 34) (M20 35) (M20 36) (M20 31 6).toNat := by
              rw [show (M20 31 6).toNat = (M1 31 6).toNat + 1 by omega]
              refine TZc.new tz (by omega) (by omega) (by omega) ?_ b4M20.2.1 b4M20.2.2.1 b4M20.2.2.2
              rw [b4M20.1, q17]
            refine g_aload_n (pc' := 61) 1 dX8_cut_60 rfl rfl ?_
            refine g_aload_n (pc' := 62) 1 dX8_cut_61 rfl rfl ?_
            refine g_getI (pc' := 65) dX8_cut_62 rfl f_X8_31 rfl rfl (fun v25 ev25 rv25 => ?_)
            obtain rfl : v23 = v25 := ev23.trans ev25.symm
            refine g_iconst (pc' := 66) dX8_cut_65 rfl ?_
            refine g_isub (pc' := 67) dX8_cut_66 rfl ?_
            refine g_iload_n (pc' := 68) 0 dX8_cut_67 rfl rfl ?_
            refine g_callVv (pc' := 71) (As := [vi (v23 - 1), vi p]) (b := 31) (S := []) dX8_cut_68 rfl m_X8_49 w_X8_growToken (c_X8_growToken_x X M20 iM20 (v23 - 1) ⟨by omega, by omega⟩ p ⟨by omega, by omega⟩ (by omega) (by omega) (by rw [fM20 32 (by decide)]; exact gb p.toNat (by omega)) (by rw [show (v23 - 1).toNat = (M20 31 6).toNat - 1 by omega]; exact zo.vb)) rfl ⟨_, _, _, rfl, rfl, rfl⟩ (by decide) (by decide) rfl (Nat.le_of_ble_eq_true rfl) (fun M27 q26 => ?_)
            obtain ⟨iM27, fM270, eM27_31_1, eM27_31_7, eM27_31_6, pM27⟩ := q26
            have fM27 : Fr (fun c => c = 31 ∨ (33 ≤ c ∧ c ≤ 36)) M M27 := Fr.tr fM20 fM270 fi_58
            have q31_1_M27 : id (M27 31 1 = M 31 1) := eM27_31_1.trans q31_1_M20
            have wM27_31_6 : M27 31 6 = M20 31 6 := eM27_31_6
            have wM27_31_7 : M27 31 7 = M20 31 7 := eM27_31_7
            clear eM27_31_1
            have grM27 := pM27
            clear pM27
            have tzM27 : TZc (M 32) (p + 1) (M27 33) (M27 34) (M27 35) (M27 36) (M27 31 6).toNat := by
              have g : M27 35 = ms (M20 35) (v23 - 1).toNat (p + 1) ∧ (M20 33 (v23 - 1).toNat ≠ 2 → M27 36 = M20 36) ∧ (M20 33 (v23 - 1).toNat = 2 → M27 36 = ms (M20 36) (v23 - 1).toNat (if M20 36 (v23 - 1).toNat * 10 + M20 32 p.toNat - 48 < 1001 then M20 36 (v23 - 1).toNat * 10 + M20 32 p.toNat - 48 else 1001)) := grM27
              rw [show (v23 - 1).toNat = (M20 31 6).toNat - 1 by omega, show M20 32 = M 32 from fM20 32 (by decide)] at g
              rw [fM270 33 (by decide), fM270 34 (by decide), show M27 31 6 = M20 31 6 by omega]
              exact TZo.take zo (by omega) g.1 g.2
            refine g_iinc (pc' := 74) (L' := [(1, vi (p + 1)), (0, vr X 31)]) 0 dX8_cut_71 rfl rfl (by decide) rfl ?_
            refine g_goto (tgt := 12) dX8_cut_74 rfl ?_
            refine g_sub [0, 1] rfl ?_
            exact ih _ (by omega) (p + 1) M27 iM27 fM27 q31_1_M27 (by omega) (by omega) (by omega) tzM27 rfl
set_option maxHeartbeats 4000000 in
set_option maxRecDepth 100000 in
theorem c_X8_cut_x (X : Cx) (M : Mm) (hi : IC M) (gb : ∀ j : Nat, (j : Int) < M 31 1 → 0 ≤ M 32 j ∧ M 32 j ≤ 255) : Con X 2 yX8_cut cX8_cut 2 none [vr X 31] M (Qv (fun M1 => IC M1 ∧ Fr (fun c => c = 31 ∨ (33 ≤ c ∧ c ≤ 36)) M M1 ∧ M1 31 1 = M 31 1 ∧ (M1 31 7 = 0 ∧ (1 ≤ M1 31 6 ∧ M1 31 6 ≤ M 31 1 + 1) ∧ id (TZ (M 32) (M 31 1) (M1 33) (fun i => wof (M 32) (M1 33 i) (M1 34 i) (M1 35 i)) (M1 34) (M1 35) (M1 31 6 - 1).toNat ∧ ∀ i : Nat, i < (M1 31 6 - 1).toNat → M1 33 i = 2 → cap (M1 36 i) (wof (M 32) (M1 33 i) (M1 34 i) (M1 35 i)))))) := by
  refine Con.ofG rfl (Nat.le_of_ble_eq_true rfl) ?_
  show G X 2 RX8 cX8_cut 2 none (Qv (fun M1 => IC M1 ∧ Fr (fun c => c = 31 ∨ (33 ≤ c ∧ c ≤ 36)) M M1 ∧ M1 31 1 = M 31 1 ∧ (M1 31 7 = 0 ∧ (1 ≤ M1 31 6 ∧ M1 31 6 ≤ M 31 1 + 1) ∧ id (TZ (M 32) (M 31 1) (M1 33) (fun i => wof (M 32) (M1 33 i) (M1 34 i) (M1 35 i)) (M1 34) (M1 35) (M1 31 6 - 1).toNat ∧ ∀ i : Nat, i < (M1 31 6 - 1).toNat → M1 33 i = 2 → cap (M1 36 i) (wof (M 32) (M1 33 i) (M1 34 i) (M1 35 i)))))) 0 [(0, vr X 31)] [] M
  have hl := hi.2.2.1.1
  refine g_aload_n (pc' := 1) 0 dX8_cut_0 rfl rfl ?_
  refine g_iconst (pc' := 2) dX8_cut_1 rfl ?_
  refine g_putI (pc' := 5) dX8_cut_2 rfl p_X8_31 rfl rfl (by decide) (fun M1 hM1 => ?_)
  have iM1 : IC M1 := IC.wr hi hM1 (by unfold okw isT; first | decide | omega)
  have fM1 : Fr (fun c => c = 31 ∨ (33 ≤ c ∧ c ≤ 36)) M M1 := Fr.wr Fr.rf hM1 (by first | decide | omega | (dsimp only; omega))
  have q31_1_M1 : id (M1 31 1 = M 31 1) := (show M1 31 1 = M 31 1 by rw [hM1]; exact mu_ne _ _ (by first | decide | omega))
  have wM1_31_7 : M1 31 7 = M 31 7 := by rw [hM1]; exact mu_ne _ _ (by first | decide | omega)
  have xM1_31_6 : M1 31 6 = 0 := by rw [hM1]; exact mu_at _ _ _ _
  refine g_aload_n (pc' := 6) 0 dX8_cut_5 rfl rfl ?_
  refine g_iconst (pc' := 7) dX8_cut_6 rfl ?_
  refine g_putI (pc' := 10) dX8_cut_7 rfl p_X8_34 rfl rfl (by decide) (fun M2 hM2 => ?_)
  have iM2 : IC M2 := IC.wr iM1 hM2 (by unfold okw isT; first | decide | omega)
  have fM2 : Fr (fun c => c = 31 ∨ (33 ≤ c ∧ c ≤ 36)) M M2 := Fr.wr fM1 hM2 (by first | decide | omega | (dsimp only; omega))
  have q31_1_M2 : id (M2 31 1 = M 31 1) := (show M2 31 1 = M1 31 1 by rw [hM2]; exact mu_ne _ _ (by first | decide | omega)).trans q31_1_M1
  have wM2_31_6 : M2 31 6 = M1 31 6 := by rw [hM2]; exact mu_ne _ _ (by first | decide | omega)
  have xM2_31_6 : M2 31 6 = 0 := (show M2 31 6 = M1 31 6 by rw [hM2]; exact mu_ne _ _ (by first | decide | omega)).trans xM1_31_6
  have xM2_31_7 : M2 31 7 = 0 := by rw [hM2]; exact mu_at _ _ _ _
  refine g_iconst (pc' := 11) dX8_cut_10 rfl ?_
  refine g_istore_n (pc' := 12) (i := 1) (L' := [(1, vi 0), (0, vr X 31)]) dX8_cut_11 rfl rfl (by decide) rfl ?_
  refine g_sub [0, 1] rfl ?_
  exact l_X8_cut_x_12 X M hi gb _ 0 M2 iM2 fM2 q31_1_M2 (by omega) (by omega) (by omega) (by rw [show (M2 31 6).toNat = 0 by omega]; exact TZc.zero _ _ _ _ _) rfl
