set_option maxHeartbeats 4000000 in
set_option maxRecDepth 100000 in
theorem c_X3_push_y (X : Cx) (M : Mm) (hi : IC M) (a : Int) (ha : inL a) (st : List Int) (hst : STK M st)  : Con X 0 yX3_push cX3_push 3 (some .boolean) [vr X 53, vl a] M (Qi (fun r M1 => IC M1 ∧ Fr (fun c => c = 53 ∨ c = 59) M M1 ∧ M1 53 3 = M 53 3 ∧ M1 53 4 = M 53 4 ∧ (PSX M1 a st r))) := by
  refine Con.ofG rfl (Nat.le_of_ble_eq_true rfl) ?_
  show G X 0 RX3 cX3_push 3 (some .boolean) (Qi (fun r M1 => IC M1 ∧ Fr (fun c => c = 53 ∨ c = 59) M M1 ∧ M1 53 3 = M 53 3 ∧ M1 53 4 = M 53 4 ∧ (PSX M1 a st r))) 0 [(0, vr X 53), (1, vl a)] [] M
  refine g_aload_n (pc' := 1) 0 dX3_push_0 rfl rfl ?_
  refine g_getI (pc' := 4) dX3_push_1 rfl f_X3_99 rfl rfl (fun v1 ev1 rv1 => ?_)
  have bv1 : 0 ≤ v1 ∧ v1 ≤ 50 := by rw [ev1]; exact hi.2.2.2.2
  have av1 : v1 = M 53 2 := ev1
  refine g_bipush (pc' := 6) (v := 50) dX3_push_4 rfl (by decide) ?_
  refine g_ic_ge (pc' := 9) (tgt := 25) rv1 (by decide) dX3_push_6 rfl rfl (fun c2 => ?_) (fun c2 => ?_)
  · refine g_iconst (pc' := 26) dX3_push_25 rfl ?_
    refine g_zreturn dX3_push_26 (by omega) ?_
    exact ⟨hi, Fr.rf, rfl, rfl, Or.inr ⟨rfl, psC_n (by have := hst.len (by omega); omega)⟩⟩
  · refine g_lload_n (pc' := 10) 1 dX3_push_9 rfl rfl ?_
    refine g_ldc2 (pc' := 13) (v := 1000000000) dX3_push_10 rfl k_X3_144 ?_
    refine g_lc_gt (pc' := 17) (tgt := 25) ha (by decide) dX3_push_13 dX3_push_14 rfl rfl (fun c3 => ?_) (fun c3 => ?_)
    · refine g_iconst (pc' := 26) dX3_push_25 rfl ?_
      refine g_zreturn dX3_push_26 (by omega) ?_
      exact ⟨hi, Fr.rf, rfl, rfl, Or.inr ⟨rfl, psC_n (by have := hst.len (by omega); omega)⟩⟩
    · refine g_lload_n (pc' := 18) 1 dX3_push_17 rfl rfl ?_
      refine g_ldc2 (pc' := 21) (v := (-1000000000)) dX3_push_18 rfl k_X3_146 ?_
      refine g_lc_ge (pc' := 25) (tgt := 27) ha (by decide) dX3_push_21 dX3_push_22 rfl rfl (fun c4 => ?_) (fun c4 => ?_)
      · refine g_aload_n (pc' := 28) 0 dX3_push_27 rfl rfl ?_
        refine g_getR (pc' := 31) dX3_push_28 rfl f_X3_18 rfl rfl ?_
        refine g_aload_n (pc' := 32) 0 dX3_push_31 rfl rfl ?_
        refine g_getI (pc' := 35) dX3_push_32 rfl f_X3_99 rfl rfl (fun v5 ev5 rv5 => ?_)
        obtain rfl : v1 = v5 := ev1.trans ev5.symm
        refine g_lload_n (pc' := 36) 1 dX3_push_35 rfl rfl ?_
        refine g_last (pc' := 37) dX3_push_36 rfl rfl (by omega) (by omega) ha (fun M6 hM6 => ?_)
        have iM6 : IC M6 := IC.wr hi hM6 (by unfold okw isT; first | decide | omega)
        have fM6 : Fr (fun c => c = 53 ∨ c = 59) M M6 := Fr.wr Fr.rf hM6 (by first | decide | omega | (dsimp only; omega))
        have q53_3_M6 : id (M6 53 3 = M 53 3) := (show M6 53 3 = M 53 3 by rw [hM6]; exact mu_ne _ _ (by first | decide | omega))
        have q53_4_M6 : id (M6 53 4 = M 53 4) := (show M6 53 4 = M 53 4 by rw [hM6]; exact mu_ne _ _ (by first | decide | omega))
        have q53_2_M6 : (M6 53 2 = M 53 2) := (show M6 53 2 = M 53 2 by rw [hM6]; exact mu_ne _ _ (by first | decide | omega))
        have wM6_53_2 : M6 53 2 = M 53 2 := by rw [hM6]; exact mu_ne _ _ (by first | decide | omega)
        have c59M6 : M6 59 = ms (M 59) v1.toNat a := by rw [hM6, mu_is]
        refine g_aload_n (pc' := 38) 0 dX3_push_37 rfl rfl ?_
        refine g_dup (pc' := 39) dX3_push_38 rfl rfl ?_
        refine g_getI (pc' := 42) dX3_push_39 rfl f_X3_99 rfl rfl (fun v7 ev7 rv7 => ?_)
        have bv7 : 0 ≤ v7 ∧ v7 ≤ 50 := by rw [ev7]; exact iM6.2.2.2.2
        have av7 : v7 = M 53 2 := ev7.trans q53_2_M6
        obtain rfl : v1 = v7 := av1.trans av7.symm
        refine g_iconst (pc' := 43) dX3_push_42 rfl ?_
        refine g_iadd (pc' := 44) dX3_push_43 rfl ?_
        refine g_putI (pc' := 47) dX3_push_44 rfl p_X3_99 rfl rfl ⟨by omega, by omega⟩ (fun M8 hM8 => ?_)
        have iM8 : IC M8 := IC.wr iM6 hM8 (by unfold okw isT; first | decide | omega)
        have fM8 : Fr (fun c => c = 53 ∨ c = 59) M M8 := Fr.wr fM6 hM8 (by first | decide | omega | (dsimp only; omega))
        have q53_3_M8 : id (M8 53 3 = M 53 3) := (show M8 53 3 = M6 53 3 by rw [hM8]; exact mu_ne _ _ (by first | decide | omega)).trans q53_3_M6
        have q53_4_M8 : id (M8 53 4 = M 53 4) := (show M8 53 4 = M6 53 4 by rw [hM8]; exact mu_ne _ _ (by first | decide | omega)).trans q53_4_M6
        have xM8_53_2 : M8 53 2 = v1 + 1 := by rw [hM8]; exact mu_at _ _ _ _
        have c59M8 : M8 59 = ms (M 59) v1.toNat a := (show M8 59 = M6 59 by rw [hM8]; exact mu_cell _ _ (by decide)).trans c59M6
        refine g_iconst (pc' := 48) dX3_push_47 rfl ?_
        refine g_zreturn dX3_push_48 (by omega) ?_
        exact ⟨iM8, fM8, q53_3_M8, q53_4_M8, Or.inl ⟨rfl, psC_y (by have := hst.len (by omega); omega) (by omega), hst.push (by omega) (by omega) (by rw [c59M8, show v1 = M 53 2 by omega]) (by omega)⟩⟩
      · refine g_iconst (pc' := 26) dX3_push_25 rfl ?_
        refine g_zreturn dX3_push_26 (by omega) ?_
        exact ⟨hi, Fr.rf, rfl, rfl, Or.inr ⟨rfl, psC_n (by have := hst.len (by omega); omega)⟩⟩
set_option maxHeartbeats 4000000 in
set_option maxRecDepth 100000 in
theorem c_X3_pop_y (X : Cx) (M : Mm) (hi : IC M) (st : List Int) (hst : STK M st)  : Con X 0 yX3_pop cX3_pop 1 (some .long) [vr X 53] M (Ql (fun r M1 => IC M1 ∧ Fr (fun c => c = 53) M M1 ∧ M1 53 3 = M 53 3 ∧ M1 53 4 = M 53 4 ∧ (POX M1 st r))) := by
  refine Con.ofG rfl (Nat.le_of_ble_eq_true rfl) ?_
  show G X 0 RX3 cX3_pop 1 (some .long) (Ql (fun r M1 => IC M1 ∧ Fr (fun c => c = 53) M M1 ∧ M1 53 3 = M 53 3 ∧ M1 53 4 = M 53 4 ∧ (POX M1 st r))) 0 [(0, vr X 53)] [] M
  refine g_aload_n (pc' := 1) 0 dX3_pop_0 rfl rfl ?_
  refine g_getI (pc' := 4) dX3_pop_1 rfl f_X3_99 rfl rfl (fun v1 ev1 rv1 => ?_)
  have bv1 : 0 ≤ v1 ∧ v1 ≤ 50 := by rw [ev1]; exact hi.2.2.2.2
  have av1 : v1 = M 53 2 := ev1
  refine g_if_gt (pc' := 7) (tgt := 9) rv1 dX3_pop_4 rfl rfl (fun c2 => ?_) (fun c2 => ?_)
  · refine g_aload_n (pc' := 10) 0 dX3_pop_9 rfl rfl ?_
    refine g_dup (pc' := 11) dX3_pop_10 rfl rfl ?_
    refine g_getI (pc' := 14) dX3_pop_11 rfl f_X3_99 rfl rfl (fun v3 ev3 rv3 => ?_)
    obtain rfl : v1 = v3 := ev1.trans ev3.symm
    refine g_iconst (pc' := 15) dX3_pop_14 rfl ?_
    refine g_isub (pc' := 16) dX3_pop_15 rfl ?_
    refine g_putI (pc' := 19) dX3_pop_16 rfl p_X3_99 rfl rfl ⟨by omega, by omega⟩ (fun M4 hM4 => ?_)
    have iM4 : IC M4 := IC.wr hi hM4 (by unfold okw isT; first | decide | omega)
    have fM4 : Fr (fun c => c = 53) M M4 := Fr.wr Fr.rf hM4 (by first | decide | omega | (dsimp only; omega))
    have q53_3_M4 : id (M4 53 3 = M 53 3) := (show M4 53 3 = M 53 3 by rw [hM4]; exact mu_ne _ _ (by first | decide | omega))
    have q53_4_M4 : id (M4 53 4 = M 53 4) := (show M4 53 4 = M 53 4 by rw [hM4]; exact mu_ne _ _ (by first | decide | omega))
    have xM4_53_2 : M4 53 2 = v1 - 1 := by rw [hM4]; exact mu_at _ _ _ _
    have c59M4 : M4 59 = M 59 := (show M4 59 = M 59 by rw [hM4]; exact mu_cell _ _ (by decide))
    refine g_aload_n (pc' := 20) 0 dX3_pop_19 rfl rfl ?_
    refine g_getR (pc' := 23) dX3_pop_20 rfl f_X3_18 rfl rfl ?_
    refine g_aload_n (pc' := 24) 0 dX3_pop_23 rfl rfl ?_
    refine g_getI (pc' := 27) dX3_pop_24 rfl f_X3_99 rfl rfl (fun v5 ev5 rv5 => ?_)
    have bv5 : 0 ≤ v5 ∧ v5 ≤ 50 := by rw [ev5]; exact iM4.2.2.2.2
    have yv5 : v5 = v1 - 1 := ev5.trans xM4_53_2
    refine g_lald (pc' := 28) dX3_pop_27 rfl rfl (by omega) (by omega) (fun v6 ev6 rv6 => ?_)
    refine g_lreturn dX3_pop_28 ?_
    have hv : v6 = M 59 (M 53 2 - 1).toNat := by rw [ev6, c59M4, show v5 = M 53 2 - 1 by omega]
    obtain ⟨rs, es, pp, bb, bd⟩ := hst.top (by omega)
    subst es
    exact ⟨iM4, fM4, q53_3_M4, q53_4_M4, hv, ⟨by rw [c59M4, show M4 53 2 = M 53 2 - 1 by omega]; exact pp, bb⟩, by rw [hv]; exact bd⟩
  · refine g_lconst (pc' := 8) (v := 0) dX3_pop_7 rfl (by decide) ?_
    refine g_lreturn dX3_pop_8 ?_
    exact ⟨hi, Fr.rf, rfl, rfl, by
        have e0 := hst.emp (by omega)
        subst e0
        exact ⟨rfl, hst, by omega⟩⟩
set_option maxHeartbeats 4000000 in
set_option maxRecDepth 100000 in
theorem c_X3_combined_y (X : Cx) (M : Mm) (c : Int) (hc : inI c) (a : Int) (ha : inL a) (b : Int) (hb : inL b) (pa : -1000001000 ≤ a ∧ a ≤ 1000001000) (pb : -1000001000 ≤ b ∧ b ≤ 1000001000) : Con X 0 yX3_combined cX3_combined 5 (some .long) [vi c, vl a, vl b] M (Ql (fun r M1 => M1 = M ∧ (inL r ∧ okV r = opV (c + 14) b a))) := by
  refine Con.ofG rfl (Nat.le_of_ble_eq_true rfl) ?_
  show G X 0 RX3 cX3_combined 5 (some .long) (Ql (fun r M1 => M1 = M ∧ (inL r ∧ okV r = opV (c + 14) b a))) 0 [(0, vi c), (1, vl a), (3, vl b)] [] M
  have mb := mulBE pb pa
  have db := tdivBE (b := a) pb
  refine g_iload_n (pc' := 1) 0 dX3_combined_0 rfl rfl ?_
  by_cases c1 : c = 6
  · refine g_tabIn (tgt := 40) (off := 39) hc dX3_combined_1 (by omega) (by omega) (by rw [c1]; rfl) rfl ?_
    refine g_lload_n (pc' := 41) 2 dX3_combined_40 rfl rfl ?_
    refine g_lload_n (pc' := 42) 1 dX3_combined_41 rfl rfl ?_
    refine g_ladd (pc' := 43) dX3_combined_42 rfl ?_
    refine g_lreturn dX3_combined_43 ?_
    exact ⟨rfl, ⟨by omega, by omega⟩, by unfold opV; rw [if_pos (by omega)]⟩
  by_cases c2 : c = 7
  · refine g_tabIn (tgt := 44) (off := 43) hc dX3_combined_1 (by omega) (by omega) (by rw [c2]; rfl) rfl ?_
    refine g_lload_n (pc' := 45) 2 dX3_combined_44 rfl rfl ?_
    refine g_lload_n (pc' := 46) 1 dX3_combined_45 rfl rfl ?_
    refine g_lsub (pc' := 47) dX3_combined_46 rfl ?_
    refine g_lreturn dX3_combined_47 ?_
    exact ⟨rfl, ⟨by omega, by omega⟩, by unfold opV; rw [if_neg (by omega), if_pos (by omega)]⟩
  by_cases c3 : c = 8
  · refine g_tabIn (tgt := 48) (off := 47) hc dX3_combined_1 (by omega) (by omega) (by rw [c3]; rfl) rfl ?_
    refine g_lload_n (pc' := 49) 2 dX3_combined_48 rfl rfl ?_
    refine g_lload_n (pc' := 50) 1 dX3_combined_49 rfl rfl ?_
    refine g_lmul (pc' := 51) dX3_combined_50 rfl ?_
    refine g_lreturn dX3_combined_51 ?_
    exact ⟨rfl, ⟨by omega, by omega⟩, by unfold opV; rw [if_neg (by omega), if_neg (by omega), if_pos (by omega)]⟩
  by_cases c4 : c = 9
  · refine g_tabIn (tgt := 52) (off := 51) hc dX3_combined_1 (by omega) (by omega) (by rw [c4]; rfl) rfl ?_
    refine g_lload_n (pc' := 53) 1 dX3_combined_52 rfl rfl ?_
    refine g_lconst (pc' := 54) (v := 0) dX3_combined_53 rfl (by decide) ?_
    refine g_lc_ne (pc' := 58) (tgt := 64) ha (by decide) dX3_combined_54 dX3_combined_55 rfl rfl (fun c5 => ?_) (fun c5 => ?_)
    · refine g_lload_n (pc' := 65) 2 dX3_combined_64 rfl rfl ?_
      refine g_lload_n (pc' := 66) 1 dX3_combined_65 rfl rfl ?_
      refine g_ldiv (pc' := 67) hb ha (by omega) dX3_combined_66 rfl ?_
      refine g_lreturn dX3_combined_67 ?_
      exact ⟨rfl, ⟨by omega, by omega⟩, by unfold opV; rw [if_neg (by omega), if_neg (by omega), if_neg (by omega), if_pos (by omega), if_neg (by omega)]⟩
    · refine g_ldc2 (pc' := 61) (v := 1000000001) dX3_combined_58 rfl k_X3_142 ?_
      refine g_goto (tgt := 67) dX3_combined_61 rfl ?_
      refine g_lreturn dX3_combined_67 ?_
      exact ⟨rfl, ⟨by omega, by omega⟩, by unfold opV; rw [if_neg (by omega), if_neg (by omega), if_neg (by omega), if_pos (by omega), if_pos (by omega)]; exact okV_out (by omega)⟩
  by_cases c6 : c = 10
  · refine g_tabIn (tgt := 68) (off := 67) hc dX3_combined_1 (by omega) (by omega) (by rw [c6]; rfl) rfl ?_
    refine g_lload_n (pc' := 69) 2 dX3_combined_68 rfl rfl ?_
    refine g_lload_n (pc' := 70) 1 dX3_combined_69 rfl rfl ?_
    refine g_lc_ge (pc' := 74) (tgt := 78) hb ha dX3_combined_70 dX3_combined_71 rfl rfl (fun c7 => ?_) (fun c7 => ?_)
    · refine g_lconst (pc' := 79) (v := 0) dX3_combined_78 rfl (by decide) ?_
      refine g_lreturn dX3_combined_79 ?_
      exact ⟨rfl, ⟨by omega, by omega⟩, by unfold opV; rw [if_neg (by omega), if_neg (by omega), if_neg (by omega), if_neg (by omega), if_pos (by omega), if_neg (by omega)]; rfl⟩
    · refine g_lconst (pc' := 75) (v := 1) dX3_combined_74 rfl (by decide) ?_
      refine g_goto (tgt := 79) dX3_combined_75 rfl ?_
      refine g_lreturn dX3_combined_79 ?_
      exact ⟨rfl, ⟨by omega, by omega⟩, by unfold opV; rw [if_neg (by omega), if_neg (by omega), if_neg (by omega), if_neg (by omega), if_pos (by omega), if_pos (by omega)]; rfl⟩
  by_cases c8 : c = 11
  · refine g_tabIn (tgt := 80) (off := 79) hc dX3_combined_1 (by omega) (by omega) (by rw [c8]; rfl) rfl ?_
    refine g_lload_n (pc' := 81) 2 dX3_combined_80 rfl rfl ?_
    refine g_lload_n (pc' := 82) 1 dX3_combined_81 rfl rfl ?_
    refine g_lc_le (pc' := 86) (tgt := 90) hb ha dX3_combined_82 dX3_combined_83 rfl rfl (fun c9 => ?_) (fun c9 => ?_)
    · refine g_lconst (pc' := 91) (v := 0) dX3_combined_90 rfl (by decide) ?_
      refine g_lreturn dX3_combined_91 ?_
      exact ⟨rfl, ⟨by omega, by omega⟩, by unfold opV; rw [if_neg (by omega), if_neg (by omega), if_neg (by omega), if_neg (by omega), if_neg (by omega), if_pos (by omega), if_neg (by omega)]; rfl⟩
    · refine g_lconst (pc' := 87) (v := 1) dX3_combined_86 rfl (by decide) ?_
      refine g_goto (tgt := 91) dX3_combined_87 rfl ?_
      refine g_lreturn dX3_combined_91 ?_
      exact ⟨rfl, ⟨by omega, by omega⟩, by unfold opV; rw [if_neg (by omega), if_neg (by omega), if_neg (by omega), if_neg (by omega), if_neg (by omega), if_pos (by omega), if_pos (by omega)]; rfl⟩
  refine g_tabOut (tgt := 92) hc dX3_combined_1 (by omega) rfl ?_
  refine g_lload_n (pc' := 93) 2 dX3_combined_92 rfl rfl ?_
  refine g_lload_n (pc' := 94) 1 dX3_combined_93 rfl rfl ?_
  refine g_lc_ne (pc' := 98) (tgt := 102) hb ha dX3_combined_94 dX3_combined_95 rfl rfl (fun c11 => ?_) (fun c11 => ?_)
  · refine g_lconst (pc' := 103) (v := 0) dX3_combined_102 rfl (by decide) ?_
    refine g_lreturn dX3_combined_103 ?_
    exact ⟨rfl, ⟨by omega, by omega⟩, by unfold opV; rw [if_neg (by omega), if_neg (by omega), if_neg (by omega), if_neg (by omega), if_neg (by omega), if_neg (by omega), if_neg (by omega)]; rfl⟩
  · refine g_lconst (pc' := 99) (v := 1) dX3_combined_98 rfl (by decide) ?_
    refine g_goto (tgt := 103) dX3_combined_99 rfl ?_
    refine g_lreturn dX3_combined_103 ?_
    exact ⟨rfl, ⟨by omega, by omega⟩, by unfold opV; rw [if_neg (by omega), if_neg (by omega), if_neg (by omega), if_neg (by omega), if_neg (by omega), if_neg (by omega), if_pos (by omega)]; rfl⟩
set_option maxHeartbeats 4000000 in
set_option maxRecDepth 100000 in
theorem c_X3_isSettled_y (X : Cx) (M : Mm) (hi : IC M) (a : Int) (ha : inI a) (st : List Int) (hst : STK M st) (hc1 : a = 14 ∨ a = 15) : Con X 0 yX3_isSettled cX3_isSettled 3 (some .boolean) [vr X 53, vi a] M (Qi (fun r M1 => IC M1 ∧ Fr (fun c => c = 53) M M1 ∧ M1 53 3 = M 53 3 ∧ M1 53 4 = M 53 4 ∧ (ISX M1 a st r))) := by
  refine Con.ofG rfl (Nat.le_of_ble_eq_true rfl) ?_
  show G X 0 RX3 cX3_isSettled 3 (some .boolean) (Qi (fun r M1 => IC M1 ∧ Fr (fun c => c = 53) M M1 ∧ M1 53 3 = M 53 3 ∧ M1 53 4 = M 53 4 ∧ (ISX M1 a st r))) 0 [(0, vr X 53), (1, vi a)] [] M
  refine g_aload_n (pc' := 1) 0 dX3_isSettled_0 rfl rfl ?_
  refine g_getI (pc' := 4) dX3_isSettled_1 rfl f_X3_99 rfl rfl (fun v1 ev1 rv1 => ?_)
  have bv1 : 0 ≤ v1 ∧ v1 ≤ 50 := by rw [ev1]; exact hi.2.2.2.2
  have av1 : v1 = M 53 2 := ev1
  refine g_iconst (pc' := 5) dX3_isSettled_4 rfl ?_
  refine g_ic_ge (pc' := 8) (tgt := 10) rv1 (by decide) dX3_isSettled_5 rfl rfl (fun c2 => ?_) (fun c2 => ?_)
  · refine g_aload_n (pc' := 11) 0 dX3_isSettled_10 rfl rfl ?_
    refine g_getR (pc' := 14) dX3_isSettled_11 rfl f_X3_18 rfl rfl ?_
    refine g_aload_n (pc' := 15) 0 dX3_isSettled_14 rfl rfl ?_
    refine g_getI (pc' := 18) dX3_isSettled_15 rfl f_X3_99 rfl rfl (fun v3 ev3 rv3 => ?_)
    obtain rfl : v1 = v3 := ev1.trans ev3.symm
    refine g_iconst (pc' := 19) dX3_isSettled_18 rfl ?_
    refine g_isub (pc' := 20) dX3_isSettled_19 rfl ?_
    refine g_lald (pc' := 21) dX3_isSettled_20 rfl rfl (by omega) (by omega) (fun v4 ev4 rv4 => ?_)
    refine g_lconst (pc' := 22) (v := 0) dX3_isSettled_21 rfl (by decide) ?_
    refine g_lc_eq (pc' := 26) (tgt := 30) rv4 (by decide) dX3_isSettled_22 dX3_isSettled_23 rfl rfl (fun c5 => ?_) (fun c5 => ?_)
    · refine g_iconst (pc' := 31) dX3_isSettled_30 rfl ?_
      refine g_iload_n (pc' := 32) 1 dX3_isSettled_31 rfl rfl ?_
      refine g_bipush (pc' := 34) (v := 15) dX3_isSettled_32 rfl (by decide) ?_
      refine g_ic_ne (pc' := 37) (tgt := 41) ha (by decide) dX3_isSettled_34 rfl rfl (fun c6 => ?_) (fun c6 => ?_)
      · refine g_iconst (pc' := 42) dX3_isSettled_41 rfl ?_
        refine g_ic_ne (pc' := 45) (tgt := 49) (by decide) (by decide) dX3_isSettled_42 rfl rfl (fun c7 => ?_) (fun c7 => ?_)
        · exact absurd c7 (by omega)
        · refine g_iconst (pc' := 46) dX3_isSettled_45 rfl ?_
          refine g_goto (tgt := 50) dX3_isSettled_46 rfl ?_
          refine g_istore_n (pc' := 51) (i := 2) (L' := [(2, vi 1), (0, vr X 53), (1, vi a)]) dX3_isSettled_50 rfl rfl (by decide) rfl ?_
          refine g_iload_n (pc' := 52) 0 dX3_isSettled_51 rfl rfl ?_
          refine g_if_ne (pc' := 55) (tgt := 65) (by decide) dX3_isSettled_52 rfl rfl (fun c8 => ?_) (fun c8 => ?_)
          · refine g_iload_n (pc' := 66) 0 dX3_isSettled_65 rfl rfl ?_
            refine g_zreturn dX3_isSettled_66 (by omega) ?_
            have hv : v4 = M 59 (M 53 2 - 1).toNat := by rw [ev4, show (v1 - 1) = M 53 2 - 1 by omega]
            obtain ⟨rs, es, pp, bb, bd⟩ := hst.top (by omega)
            subst es
            first | exact False.elim (by omega) | exact ⟨hi, Fr.rf, rfl, rfl, Or.inr ⟨_, rs, rfl, Or.inl ⟨rfl, by omega, hst⟩⟩⟩
          · exact absurd c8 (by omega)
      · refine g_iconst (pc' := 38) dX3_isSettled_37 rfl ?_
        refine g_goto (tgt := 42) dX3_isSettled_38 rfl ?_
        refine g_ic_ne (pc' := 45) (tgt := 49) (by decide) (by decide) dX3_isSettled_42 rfl rfl (fun c9 => ?_) (fun c9 => ?_)
        · refine g_iconst (pc' := 50) dX3_isSettled_49 rfl ?_
          refine g_istore_n (pc' := 51) (i := 2) (L' := [(2, vi 0), (0, vr X 53), (1, vi a)]) dX3_isSettled_50 rfl rfl (by decide) rfl ?_
          refine g_iload_n (pc' := 52) 0 dX3_isSettled_51 rfl rfl ?_
          refine g_if_ne (pc' := 55) (tgt := 65) (by decide) dX3_isSettled_52 rfl rfl (fun c10 => ?_) (fun c10 => ?_)
          · exact absurd c10 (by omega)
          · refine g_aload_n (pc' := 56) 1 dX3_isSettled_55 rfl rfl ?_
            refine g_dup (pc' := 57) dX3_isSettled_56 rfl rfl ?_
            refine g_getI (pc' := 60) dX3_isSettled_57 rfl f_X3_99 rfl rfl (fun v11 ev11 rv11 => ?_)
            obtain rfl : v1 = v11 := ev1.trans ev11.symm
            refine g_iconst (pc' := 61) dX3_isSettled_60 rfl ?_
            refine g_isub (pc' := 62) dX3_isSettled_61 rfl ?_
            refine g_putI (pc' := 65) dX3_isSettled_62 rfl p_X3_99 rfl rfl ⟨by omega, by omega⟩ (fun M12 hM12 => ?_)
            have iM12 : IC M12 := IC.wr hi hM12 (by unfold okw isT; first | decide | omega)
            have fM12 : Fr (fun c => c = 53) M M12 := Fr.wr Fr.rf hM12 (by first | decide | omega | (dsimp only; omega))
            have q53_3_M12 : id (M12 53 3 = M 53 3) := (show M12 53 3 = M 53 3 by rw [hM12]; exact mu_ne _ _ (by first | decide | omega))
            have q53_4_M12 : id (M12 53 4 = M 53 4) := (show M12 53 4 = M 53 4 by rw [hM12]; exact mu_ne _ _ (by first | decide | omega))
            have xM12_53_2 : M12 53 2 = v1 - 1 := by rw [hM12]; exact mu_at _ _ _ _
            have c59M12 : M12 59 = M 59 := (show M12 59 = M 59 by rw [hM12]; exact mu_cell _ _ (by decide))
            refine g_iload_n (pc' := 66) 0 dX3_isSettled_65 rfl rfl ?_
            refine g_zreturn dX3_isSettled_66 (by omega) ?_
            have hv : v4 = M 59 (M 53 2 - 1).toNat := by rw [ev4, show (v1 - 1) = M 53 2 - 1 by omega]
            obtain ⟨rs, es, pp, bb, bd⟩ := hst.top (by omega)
            subst es
            first | exact False.elim (by omega) | exact ⟨iM12, fM12, q53_3_M12, q53_4_M12, Or.inr ⟨_, rs, rfl, Or.inr ⟨rfl, by omega, ⟨by rw [c59M12, show M12 53 2 = M 53 2 - 1 by omega]; exact pp, bb⟩⟩⟩⟩
        · exact absurd c9 (by omega)
    · refine g_iconst (pc' := 27) dX3_isSettled_26 rfl ?_
      refine g_goto (tgt := 31) dX3_isSettled_27 rfl ?_
      refine g_iload_n (pc' := 32) 1 dX3_isSettled_31 rfl rfl ?_
      refine g_bipush (pc' := 34) (v := 15) dX3_isSettled_32 rfl (by decide) ?_
      refine g_ic_ne (pc' := 37) (tgt := 41) ha (by decide) dX3_isSettled_34 rfl rfl (fun c13 => ?_) (fun c13 => ?_)
      · refine g_iconst (pc' := 42) dX3_isSettled_41 rfl ?_
        refine g_ic_ne (pc' := 45) (tgt := 49) (by decide) (by decide) dX3_isSettled_42 rfl rfl (fun c14 => ?_) (fun c14 => ?_)
        · refine g_iconst (pc' := 50) dX3_isSettled_49 rfl ?_
          refine g_istore_n (pc' := 51) (i := 2) (L' := [(2, vi 0), (0, vr X 53), (1, vi a)]) dX3_isSettled_50 rfl rfl (by decide) rfl ?_
          refine g_iload_n (pc' := 52) 0 dX3_isSettled_51 rfl rfl ?_
          refine g_if_ne (pc' := 55) (tgt := 65) (by decide) dX3_isSettled_52 rfl rfl (fun c15 => ?_) (fun c15 => ?_)
          · exact absurd c15 (by omega)
          · refine g_aload_n (pc' := 56) 1 dX3_isSettled_55 rfl rfl ?_
            refine g_dup (pc' := 57) dX3_isSettled_56 rfl rfl ?_
            refine g_getI (pc' := 60) dX3_isSettled_57 rfl f_X3_99 rfl rfl (fun v16 ev16 rv16 => ?_)
            obtain rfl : v1 = v16 := ev1.trans ev16.symm
            refine g_iconst (pc' := 61) dX3_isSettled_60 rfl ?_
            refine g_isub (pc' := 62) dX3_isSettled_61 rfl ?_
            refine g_putI (pc' := 65) dX3_isSettled_62 rfl p_X3_99 rfl rfl ⟨by omega, by omega⟩ (fun M17 hM17 => ?_)
            have iM17 : IC M17 := IC.wr hi hM17 (by unfold okw isT; first | decide | omega)
            have fM17 : Fr (fun c => c = 53) M M17 := Fr.wr Fr.rf hM17 (by first | decide | omega | (dsimp only; omega))
            have q53_3_M17 : id (M17 53 3 = M 53 3) := (show M17 53 3 = M 53 3 by rw [hM17]; exact mu_ne _ _ (by first | decide | omega))
            have q53_4_M17 : id (M17 53 4 = M 53 4) := (show M17 53 4 = M 53 4 by rw [hM17]; exact mu_ne _ _ (by first | decide | omega))
            have xM17_53_2 : M17 53 2 = v1 - 1 := by rw [hM17]; exact mu_at _ _ _ _
            have c59M17 : M17 59 = M 59 := (show M17 59 = M 59 by rw [hM17]; exact mu_cell _ _ (by decide))
            refine g_iload_n (pc' := 66) 0 dX3_isSettled_65 rfl rfl ?_
            refine g_zreturn dX3_isSettled_66 (by omega) ?_
            have hv : v4 = M 59 (M 53 2 - 1).toNat := by rw [ev4, show (v1 - 1) = M 53 2 - 1 by omega]
            obtain ⟨rs, es, pp, bb, bd⟩ := hst.top (by omega)
            subst es
            first | exact False.elim (by omega) | exact ⟨iM17, fM17, q53_3_M17, q53_4_M17, Or.inr ⟨_, rs, rfl, Or.inr ⟨rfl, by omega, ⟨by rw [c59M17, show M17 53 2 = M 53 2 - 1 by omega]; exact pp, bb⟩⟩⟩⟩
        · exact absurd c14 (by omega)
      · refine g_iconst (pc' := 38) dX3_isSettled_37 rfl ?_
        refine g_goto (tgt := 42) dX3_isSettled_38 rfl ?_
        refine g_ic_ne (pc' := 45) (tgt := 49) (by decide) (by decide) dX3_isSettled_42 rfl rfl (fun c18 => ?_) (fun c18 => ?_)
        · exact absurd c18 (by omega)
        · refine g_iconst (pc' := 46) dX3_isSettled_45 rfl ?_
          refine g_goto (tgt := 50) dX3_isSettled_46 rfl ?_
          refine g_istore_n (pc' := 51) (i := 2) (L' := [(2, vi 1), (0, vr X 53), (1, vi a)]) dX3_isSettled_50 rfl rfl (by decide) rfl ?_
          refine g_iload_n (pc' := 52) 0 dX3_isSettled_51 rfl rfl ?_
          refine g_if_ne (pc' := 55) (tgt := 65) (by decide) dX3_isSettled_52 rfl rfl (fun c19 => ?_) (fun c19 => ?_)
          · refine g_iload_n (pc' := 66) 0 dX3_isSettled_65 rfl rfl ?_
            refine g_zreturn dX3_isSettled_66 (by omega) ?_
            have hv : v4 = M 59 (M 53 2 - 1).toNat := by rw [ev4, show (v1 - 1) = M 53 2 - 1 by omega]
            obtain ⟨rs, es, pp, bb, bd⟩ := hst.top (by omega)
            subst es
            first | exact False.elim (by omega) | exact ⟨hi, Fr.rf, rfl, rfl, Or.inr ⟨_, rs, rfl, Or.inl ⟨rfl, by omega, hst⟩⟩⟩
          · exact absurd c19 (by omega)
  · refine g_iconst (pc' := 9) dX3_isSettled_8 rfl ?_
    refine g_zreturn dX3_isSettled_9 (by omega) ?_
    exact ⟨hi, Fr.rf, rfl, rfl, by
        have e0 := hst.emp (by omega)
        subst e0
        exact Or.inl ⟨rfl, rfl, hst⟩⟩
set_option maxHeartbeats 4000000 in
set_option maxRecDepth 100000 in
theorem c_X3_work_y (X : Cx) (M : Mm) (hi : IC M) (a : Int) (ha : inI a) (b : Int) (hb : inI b) (ta tb : Nat) (n : Int) (P : Nat → Int) (L : Int) (F Z m z : Nat → Int) (tv : TV M 54 ta tb n P L F Z) (pap : PAP n P L F Z m z) (hdn : 0 ≤ M 53 3 ∧ M 53 3 ≤ 1000) (st : List Int) (hst : STK M st) (hrg : 2 ≤ a → a ≤ 4 → 0 ≤ b ∧ b ≤ 23) : Con X 2 yX3_work cX3_work 4 (some .boolean) [vr X 53, vi a, vi b] M (Qi (fun r M1 => IC M1 ∧ Fr (fun c => c = 53 ∨ c = 59) M M1 ∧ M1 53 3 = M 53 3 ∧ M1 53 4 = M 53 4 ∧ (WKX (evE n (M 53 3) m z) M1 a b st r))) := by
  refine Con.ofG rfl (Nat.le_of_ble_eq_true rfl) ?_
  show G X 2 RX3 cX3_work 4 (some .boolean) (Qi (fun r M1 => IC M1 ∧ Fr (fun c => c = 53 ∨ c = 59) M M1 ∧ M1 53 3 = M 53 3 ∧ M1 53 4 = M 53 4 ∧ (WKX (evE n (M 53 3) m z) M1 a b st r))) 0 [(0, vr X 53), (1, vi a), (2, vi b)] [] M
  refine g_iload_n (pc' := 1) 2 dX3_work_0 rfl rfl ?_
  refine g_iconst (pc' := 2) dX3_work_1 rfl ?_
  refine g_idiv (pc' := 3) hb (by decide) (by omega) dX3_work_2 rfl ?_
  refine g_nrmI (fun n1 rn1 en1 => ?_)
  have bn1 : (-2147483648 ≤ b.tdiv 4 ∧ b.tdiv 4 ≤ 2147483647) → n1 = b.tdiv 4 := fun h => en1.trans (bm32 h)
  refine g_istore_n (pc' := 4) (i := 3) (L' := [(3, vi n1), (0, vr X 53), (1, vi a), (2, vi b)]) dX3_work_3 rfl rfl (by decide) rfl ?_
  refine g_iload_n (pc' := 5) 2 dX3_work_4 rfl rfl ?_
  by_cases c2 : a = 1
  · refine g_tabIn (tgt := 72) (off := 67) ha dX3_work_5 (by omega) (by omega) (by rw [c2]; rfl) rfl ?_
    refine g_aload_n (pc' := 73) 1 dX3_work_72 rfl rfl ?_
    refine g_iload_n (pc' := 74) 3 dX3_work_73 rfl rfl ?_
    refine g_i2l (pc' := 75) hb dX3_work_74 rfl ?_
    refine g_callVi (pc' := 78) (As := [vl b]) (b := 53) (S := []) dX3_work_75 rfl m_X3_120 w_X3_push (c_X3_push_y X M hi b ⟨by omega, by omega⟩ st hst) rfl ⟨_, _, _, rfl, rfl, rfl⟩ (by decide) (by decide) rfl (Nat.le_of_ble_eq_true rfl) (fun z4 M5 q3 => ?_)
    obtain ⟨iM5, fM50, eM5_53_3, eM5_53_4, pM5⟩ := q3
    have fM5 : Fr (fun c => c = 53 ∨ c = 59) M M5 := Fr.tr Fr.rf fM50 (fun _ z => z)
    have q53_3_M5 : id (M5 53 3 = M 53 3) := eM5_53_3
    have q53_4_M5 : id (M5 53 4 = M 53 4) := eM5_53_4
    clear eM5_53_3 eM5_53_4
    have rbM5 := pM5.b
    refine g_zreturn dX3_work_78 (by omega) ?_
    exact ⟨iM5, fM5, q53_3_M5, q53_4_M5, WKX.leaf pM5 (by omega) (by unfold lvC; rw [if_pos (by omega)])⟩
  by_cases c6 : a = 2
  · refine g_tabIn (tgt := 79) (off := 74) ha dX3_work_5 (by omega) (by omega) (by rw [c6]; rfl) rfl ?_
    have hbr := hrg (by omega) (by omega)
    have gg : n1 = b / 4 := by
      have q := bn1 (by rw [Int.tdiv_eq_ediv_of_nonneg (by omega)]; omega)
      rw [q, Int.tdiv_eq_ediv_of_nonneg (by omega)]
    refine g_aload_n (pc' := 80) 1 dX3_work_79 rfl rfl ?_
    refine g_aload_n (pc' := 81) 1 dX3_work_80 rfl rfl ?_
    refine g_getR (pc' := 84) dX3_work_81 rfl f_X3_12 rfl rfl ?_
    refine g_iload_n (pc' := 85) 0 dX3_work_84 rfl rfl ?_
    refine g_callVip (pc' := 88) (As := [vi n1]) (b := 54) (S := [vr X 53]) dX3_work_85 rfl m_X3_124 w_X7_fullOf (c_X7_fullOf_x X M 54 isT_54 (hi.1 _ isT_54) n1 rn1 ta tb n P L F Z tv pap.ct) rfl ⟨_, _, _, rfl, rfl, rfl⟩ (by decide) (by decide) rfl (Nat.le_of_ble_eq_true rfl) (fun z8 q7 => ?_)
    have q7a := q7.1
    have q7b := q7.2
    clear q7
    refine g_i2l (pc' := 89) ⟨by omega, by omega⟩ dX3_work_88 rfl ?_
    refine g_callVi (pc' := 92) (As := [vl z8]) (b := 53) (S := []) dX3_work_89 rfl m_X3_120 w_X3_push (c_X3_push_y X M hi z8 ⟨by omega, by omega⟩ st hst) rfl ⟨_, _, _, rfl, rfl, rfl⟩ (by decide) (by decide) rfl (Nat.le_of_ble_eq_true rfl) (fun z10 M11 q9 => ?_)
    obtain ⟨iM11, fM110, eM11_53_3, eM11_53_4, pM11⟩ := q9
    have fM11 : Fr (fun c => c = 53 ∨ c = 59) M M11 := Fr.tr Fr.rf fM110 (fun _ z => z)
    have q53_3_M11 : id (M11 53 3 = M 53 3) := eM11_53_3
    have q53_4_M11 : id (M11 53 4 = M 53 4) := eM11_53_4
    clear eM11_53_3 eM11_53_4
    have rbM11 := pM11.b
    refine g_zreturn dX3_work_92 (by omega) ?_
    exact ⟨iM11, fM11, q53_3_M11, q53_4_M11, WKX.leaf pM11 (by omega) (by unfold lvC; rw [if_neg (by omega), if_pos (by omega)]; rw [← gg]; exact (evE_full pap (by omega) q7b).symm)⟩
  by_cases c12 : a = 3
  · refine g_tabIn (tgt := 93) (off := 88) ha dX3_work_5 (by omega) (by omega) (by rw [c12]; rfl) rfl ?_
    have hbr := hrg (by omega) (by omega)
    have gg : n1 = b / 4 := by
      have q := bn1 (by rw [Int.tdiv_eq_ediv_of_nonneg (by omega)]; omega)
      rw [q, Int.tdiv_eq_ediv_of_nonneg (by omega)]
    refine g_aload_n (pc' := 94) 1 dX3_work_93 rfl rfl ?_
    refine g_aload_n (pc' := 95) 1 dX3_work_94 rfl rfl ?_
    refine g_getR (pc' := 98) dX3_work_95 rfl f_X3_12 rfl rfl ?_
    refine g_iload_n (pc' := 99) 0 dX3_work_98 rfl rfl ?_
    refine g_callVip (pc' := 102) (As := [vi n1]) (b := 54) (S := [vr X 53]) dX3_work_99 rfl m_X3_128 w_X7_sizeOf (c_X7_sizeOf_x X M 54 isT_54 (hi.1 _ isT_54) n1 rn1 ta tb n P L F Z tv pap.ct) rfl ⟨_, _, _, rfl, rfl, rfl⟩ (by decide) (by decide) rfl (Nat.le_of_ble_eq_true rfl) (fun z14 q13 => ?_)
    have q13a := q13.1
    have q13b := q13.2
    clear q13
    refine g_i2l (pc' := 103) ⟨by omega, by omega⟩ dX3_work_102 rfl ?_
    refine g_callVi (pc' := 106) (As := [vl z14]) (b := 53) (S := []) dX3_work_103 rfl m_X3_120 w_X3_push (c_X3_push_y X M hi z14 ⟨by omega, by omega⟩ st hst) rfl ⟨_, _, _, rfl, rfl, rfl⟩ (by decide) (by decide) rfl (Nat.le_of_ble_eq_true rfl) (fun z16 M17 q15 => ?_)
    obtain ⟨iM17, fM170, eM17_53_3, eM17_53_4, pM17⟩ := q15
    have fM17 : Fr (fun c => c = 53 ∨ c = 59) M M17 := Fr.tr Fr.rf fM170 (fun _ z => z)
    have q53_3_M17 : id (M17 53 3 = M 53 3) := eM17_53_3
    have q53_4_M17 : id (M17 53 4 = M 53 4) := eM17_53_4
    clear eM17_53_3 eM17_53_4
    have rbM17 := pM17.b
    refine g_zreturn dX3_work_106 (by omega) ?_
    exact ⟨iM17, fM17, q53_3_M17, q53_4_M17, WKX.leaf pM17 (by omega) (by unfold lvC; rw [if_neg (by omega), if_neg (by omega), if_pos (by omega)]; rw [← gg]; exact (evE_size pap (by omega) q13b).symm)⟩
  by_cases c18 : a = 4
  · refine g_tabIn (tgt := 107) (off := 102) ha dX3_work_5 (by omega) (by omega) (by rw [c18]; rfl) rfl ?_
    have hbr := hrg (by omega) (by omega)
    have gg : n1 = b / 4 := by
      have q := bn1 (by rw [Int.tdiv_eq_ediv_of_nonneg (by omega)]; omega)
      rw [q, Int.tdiv_eq_ediv_of_nonneg (by omega)]
    refine g_aload_n (pc' := 108) 1 dX3_work_107 rfl rfl ?_
    refine g_aload_n (pc' := 109) 1 dX3_work_108 rfl rfl ?_
    refine g_getR (pc' := 112) dX3_work_109 rfl f_X3_12 rfl rfl ?_
    refine g_iload_n (pc' := 113) 0 dX3_work_112 rfl rfl ?_
    refine g_iload_n (pc' := 114) 3 dX3_work_113 rfl rfl ?_
    refine g_iconst (pc' := 115) dX3_work_114 rfl ?_
    refine g_iremP (pc' := 116) hb (by decide) (by omega) (by omega) dX3_work_115 rfl ?_
    refine g_callVip (pc' := 119) (As := [vi n1, vi (b % 4)]) (b := 54) (S := [vr X 53]) dX3_work_116 rfl m_X3_131 w_X7_tasteOf (c_X7_tasteOf_x X M 54 isT_54 (hi.1 _ isT_54) n1 rn1 (b % 4) ⟨by omega, by omega⟩ ta tb n P L F Z tv pap.ct) rfl ⟨_, _, _, rfl, rfl, rfl⟩ (by decide) (by decide) rfl (Nat.le_of_ble_eq_true rfl) (fun z20 q19 => ?_)
    have q19a := q19.1
    have q19b := q19.2
    clear q19
    refine g_i2l (pc' := 120) ⟨by omega, by omega⟩ dX3_work_119 rfl ?_
    refine g_callVi (pc' := 123) (As := [vl z20]) (b := 53) (S := []) dX3_work_120 rfl m_X3_120 w_X3_push (c_X3_push_y X M hi z20 ⟨by omega, by omega⟩ st hst) rfl ⟨_, _, _, rfl, rfl, rfl⟩ (by decide) (by decide) rfl (Nat.le_of_ble_eq_true rfl) (fun z22 M23 q21 => ?_)
    obtain ⟨iM23, fM230, eM23_53_3, eM23_53_4, pM23⟩ := q21
    have fM23 : Fr (fun c => c = 53 ∨ c = 59) M M23 := Fr.tr Fr.rf fM230 (fun _ z => z)
    have q53_3_M23 : id (M23 53 3 = M 53 3) := eM23_53_3
    have q53_4_M23 : id (M23 53 4 = M 53 4) := eM23_53_4
    clear eM23_53_3 eM23_53_4
    have rbM23 := pM23.b
    refine g_zreturn dX3_work_123 (by omega) ?_
    exact ⟨iM23, fM23, q53_3_M23, q53_4_M23, WKX.leaf pM23 (by omega) (by unfold lvC; rw [if_neg (by omega), if_neg (by omega), if_neg (by omega), if_pos (by omega)]; rw [← gg]; exact ((q19b).trans (evE_taste pap (by omega) (by omega)).symm))⟩
  by_cases c24 : a = 5
  · refine g_tabIn (tgt := 124) (off := 119) ha dX3_work_5 (by omega) (by omega) (by rw [c24]; rfl) rfl ?_
    refine g_aload_n (pc' := 125) 1 dX3_work_124 rfl rfl ?_
    refine g_aload_n (pc' := 126) 1 dX3_work_125 rfl rfl ?_
    refine g_getI (pc' := 129) dX3_work_126 rfl f_X3_26 rfl rfl (fun v25 ev25 rv25 => ?_)
    have av25 : v25 = M 53 3 := ev25
    refine g_i2l (pc' := 130) rv25 dX3_work_129 rfl ?_
    refine g_callVi (pc' := 133) (As := [vl v25]) (b := 53) (S := []) dX3_work_130 rfl m_X3_120 w_X3_push (c_X3_push_y X M hi v25 ⟨by omega, by omega⟩ st hst) rfl ⟨_, _, _, rfl, rfl, rfl⟩ (by decide) (by decide) rfl (Nat.le_of_ble_eq_true rfl) (fun z27 M28 q26 => ?_)
    obtain ⟨iM28, fM280, eM28_53_3, eM28_53_4, pM28⟩ := q26
    have fM28 : Fr (fun c => c = 53 ∨ c = 59) M M28 := Fr.tr Fr.rf fM280 (fun _ z => z)
    have q53_3_M28 : id (M28 53 3 = M 53 3) := eM28_53_3
    have q53_4_M28 : id (M28 53 4 = M 53 4) := eM28_53_4
    clear eM28_53_3 eM28_53_4
    have rbM28 := pM28.b
    refine g_zreturn dX3_work_133 (by omega) ?_
    exact ⟨iM28, fM28, q53_3_M28, q53_4_M28, WKX.leaf pM28 (by omega) (by unfold lvC; rw [if_neg (by omega), if_neg (by omega), if_neg (by omega), if_neg (by omega), evE_4]; omega)⟩
  by_cases c29 : a = 6
  · refine g_tabIn (tgt := 145) (off := 140) ha dX3_work_5 (by omega) (by omega) (by rw [c29]; rfl) rfl ?_
    refine g_aload_n (pc' := 146) 1 dX3_work_145 rfl rfl ?_
    refine g_iload_n (pc' := 147) 2 dX3_work_146 rfl rfl ?_
    refine g_aload_n (pc' := 148) 1 dX3_work_147 rfl rfl ?_
    refine g_callVl (pc' := 151) (As := []) (b := 53) (S := [vi a, vr X 53]) dX3_work_148 rfl m_X3_134 w_X3_pop (c_X3_pop_y X M hi st hst) rfl ⟨_, _, _, rfl, rfl, rfl⟩ (by decide) (by decide) rfl (Nat.le_of_ble_eq_true rfl) (fun z31 M32 q30 => ?_)
    obtain ⟨iM32, fM320, eM32_53_3, eM32_53_4, pM32⟩ := q30
    have fM32 : Fr (fun c => c = 53 ∨ c = 59) M M32 := Fr.tr Fr.rf fM320 fi_71
    have q53_3_M32 : id (M32 53 3 = M 53 3) := eM32_53_3
    have q53_4_M32 : id (M32 53 4 = M 53 4) := eM32_53_4
    clear eM32_53_3 eM32_53_4
    have pbM32 := pM32.2.2
    refine g_aload_n (pc' := 152) 1 dX3_work_151 rfl rfl ?_
    refine g_callVl (pc' := 155) (As := []) (b := 53) (S := [vl z31, vi a, vr X 53]) dX3_work_152 rfl m_X3_134 w_X3_pop (c_X3_pop_y X M32 iM32 st.tail pM32.2.1) rfl ⟨_, _, _, rfl, rfl, rfl⟩ (by decide) (by decide) rfl (Nat.le_of_ble_eq_true rfl) (fun z34 M35 q33 => ?_)
    obtain ⟨iM35, fM350, eM35_53_3, eM35_53_4, pM35⟩ := q33
    have fM35 : Fr (fun c => c = 53 ∨ c = 59) M M35 := Fr.tr fM32 fM350 fi_71
    have q53_3_M35 : id (M35 53 3 = M 53 3) := eM35_53_3.trans q53_3_M32
    have q53_4_M35 : id (M35 53 4 = M 53 4) := eM35_53_4.trans q53_4_M32
    clear eM35_53_3 eM35_53_4
    have pbM35 := pM35.2.2
    refine g_callSlp (pc' := 158) (As := [vi a, vl z31, vl z34]) (S := [vr X 53]) dX3_work_155 rfl m_X3_138 w_X3_combined (c_X3_combined_y X M35 a ha z31 ⟨by omega, by omega⟩ z34 ⟨by omega, by omega⟩ (by omega) (by omega)) rfl (by decide) (by decide) rfl (Nat.le_of_ble_eq_true rfl) (fun z37 q36 => ?_)
    have q36a := q36.1
    have q36b := q36.2
    clear q36
    refine g_callVi (pc' := 161) (As := [vl z37]) (b := 53) (S := []) dX3_work_158 rfl m_X3_120 w_X3_push (c_X3_push_y X M35 iM35 z37 ⟨by omega, by omega⟩ st.tail.tail pM35.2.1) rfl ⟨_, _, _, rfl, rfl, rfl⟩ (by decide) (by decide) rfl (Nat.le_of_ble_eq_true rfl) (fun z39 M40 q38 => ?_)
    obtain ⟨iM40, fM400, eM40_53_3, eM40_53_4, pM40⟩ := q38
    have fM40 : Fr (fun c => c = 53 ∨ c = 59) M M40 := Fr.tr fM35 fM400 (fun _ z => z)
    have q53_3_M40 : id (M40 53 3 = M 53 3) := eM40_53_3.trans q53_3_M35
    have q53_4_M40 : id (M40 53 4 = M 53 4) := eM40_53_4.trans q53_4_M35
    clear eM40_53_3 eM40_53_4
    have rbM40 := pM40.b
    refine g_zreturn dX3_work_161 (by omega) ?_
    exact ⟨iM40, fM40, q53_3_M40, q53_4_M40, WKX.bin pM32 pM35 pM40 (by omega) q36b⟩
  by_cases c41 : a = 7
  · refine g_tabIn (tgt := 145) (off := 140) ha dX3_work_5 (by omega) (by omega) (by rw [c41]; rfl) rfl ?_
    refine g_aload_n (pc' := 146) 1 dX3_work_145 rfl rfl ?_
    refine g_iload_n (pc' := 147) 2 dX3_work_146 rfl rfl ?_
    refine g_aload_n (pc' := 148) 1 dX3_work_147 rfl rfl ?_
    refine g_callVl (pc' := 151) (As := []) (b := 53) (S := [vi a, vr X 53]) dX3_work_148 rfl m_X3_134 w_X3_pop (c_X3_pop_y X M hi st hst) rfl ⟨_, _, _, rfl, rfl, rfl⟩ (by decide) (by decide) rfl (Nat.le_of_ble_eq_true rfl) (fun z43 M44 q42 => ?_)
    obtain ⟨iM44, fM440, eM44_53_3, eM44_53_4, pM44⟩ := q42
    have fM44 : Fr (fun c => c = 53 ∨ c = 59) M M44 := Fr.tr Fr.rf fM440 fi_71
    have q53_3_M44 : id (M44 53 3 = M 53 3) := eM44_53_3
    have q53_4_M44 : id (M44 53 4 = M 53 4) := eM44_53_4
    clear eM44_53_3 eM44_53_4
    have pbM44 := pM44.2.2
    refine g_aload_n (pc' := 152) 1 dX3_work_151 rfl rfl ?_
    refine g_callVl (pc' := 155) (As := []) (b := 53) (S := [vl z43, vi a, vr X 53]) dX3_work_152 rfl m_X3_134 w_X3_pop (c_X3_pop_y X M44 iM44 st.tail pM44.2.1) rfl ⟨_, _, _, rfl, rfl, rfl⟩ (by decide) (by decide) rfl (Nat.le_of_ble_eq_true rfl) (fun z46 M47 q45 => ?_)
    obtain ⟨iM47, fM470, eM47_53_3, eM47_53_4, pM47⟩ := q45
    have fM47 : Fr (fun c => c = 53 ∨ c = 59) M M47 := Fr.tr fM44 fM470 fi_71
    have q53_3_M47 : id (M47 53 3 = M 53 3) := eM47_53_3.trans q53_3_M44
    have q53_4_M47 : id (M47 53 4 = M 53 4) := eM47_53_4.trans q53_4_M44
    clear eM47_53_3 eM47_53_4
    have pbM47 := pM47.2.2
    refine g_callSlp (pc' := 158) (As := [vi a, vl z43, vl z46]) (S := [vr X 53]) dX3_work_155 rfl m_X3_138 w_X3_combined (c_X3_combined_y X M47 a ha z43 ⟨by omega, by omega⟩ z46 ⟨by omega, by omega⟩ (by omega) (by omega)) rfl (by decide) (by decide) rfl (Nat.le_of_ble_eq_true rfl) (fun z49 q48 => ?_)
    have q48a := q48.1
    have q48b := q48.2
    clear q48
    refine g_callVi (pc' := 161) (As := [vl z49]) (b := 53) (S := []) dX3_work_158 rfl m_X3_120 w_X3_push (c_X3_push_y X M47 iM47 z49 ⟨by omega, by omega⟩ st.tail.tail pM47.2.1) rfl ⟨_, _, _, rfl, rfl, rfl⟩ (by decide) (by decide) rfl (Nat.le_of_ble_eq_true rfl) (fun z51 M52 q50 => ?_)
    obtain ⟨iM52, fM520, eM52_53_3, eM52_53_4, pM52⟩ := q50
    have fM52 : Fr (fun c => c = 53 ∨ c = 59) M M52 := Fr.tr fM47 fM520 (fun _ z => z)
    have q53_3_M52 : id (M52 53 3 = M 53 3) := eM52_53_3.trans q53_3_M47
    have q53_4_M52 : id (M52 53 4 = M 53 4) := eM52_53_4.trans q53_4_M47
    clear eM52_53_3 eM52_53_4
    have rbM52 := pM52.b
    refine g_zreturn dX3_work_161 (by omega) ?_
    exact ⟨iM52, fM52, q53_3_M52, q53_4_M52, WKX.bin pM44 pM47 pM52 (by omega) q48b⟩
  by_cases c53 : a = 8
  · refine g_tabIn (tgt := 145) (off := 140) ha dX3_work_5 (by omega) (by omega) (by rw [c53]; rfl) rfl ?_
    refine g_aload_n (pc' := 146) 1 dX3_work_145 rfl rfl ?_
    refine g_iload_n (pc' := 147) 2 dX3_work_146 rfl rfl ?_
    refine g_aload_n (pc' := 148) 1 dX3_work_147 rfl rfl ?_
    refine g_callVl (pc' := 151) (As := []) (b := 53) (S := [vi a, vr X 53]) dX3_work_148 rfl m_X3_134 w_X3_pop (c_X3_pop_y X M hi st hst) rfl ⟨_, _, _, rfl, rfl, rfl⟩ (by decide) (by decide) rfl (Nat.le_of_ble_eq_true rfl) (fun z55 M56 q54 => ?_)
    obtain ⟨iM56, fM560, eM56_53_3, eM56_53_4, pM56⟩ := q54
    have fM56 : Fr (fun c => c = 53 ∨ c = 59) M M56 := Fr.tr Fr.rf fM560 fi_71
    have q53_3_M56 : id (M56 53 3 = M 53 3) := eM56_53_3
    have q53_4_M56 : id (M56 53 4 = M 53 4) := eM56_53_4
    clear eM56_53_3 eM56_53_4
    have pbM56 := pM56.2.2
    refine g_aload_n (pc' := 152) 1 dX3_work_151 rfl rfl ?_
    refine g_callVl (pc' := 155) (As := []) (b := 53) (S := [vl z55, vi a, vr X 53]) dX3_work_152 rfl m_X3_134 w_X3_pop (c_X3_pop_y X M56 iM56 st.tail pM56.2.1) rfl ⟨_, _, _, rfl, rfl, rfl⟩ (by decide) (by decide) rfl (Nat.le_of_ble_eq_true rfl) (fun z58 M59 q57 => ?_)
    obtain ⟨iM59, fM590, eM59_53_3, eM59_53_4, pM59⟩ := q57
    have fM59 : Fr (fun c => c = 53 ∨ c = 59) M M59 := Fr.tr fM56 fM590 fi_71
    have q53_3_M59 : id (M59 53 3 = M 53 3) := eM59_53_3.trans q53_3_M56
    have q53_4_M59 : id (M59 53 4 = M 53 4) := eM59_53_4.trans q53_4_M56
    clear eM59_53_3 eM59_53_4
    have pbM59 := pM59.2.2
    refine g_callSlp (pc' := 158) (As := [vi a, vl z55, vl z58]) (S := [vr X 53]) dX3_work_155 rfl m_X3_138 w_X3_combined (c_X3_combined_y X M59 a ha z55 ⟨by omega, by omega⟩ z58 ⟨by omega, by omega⟩ (by omega) (by omega)) rfl (by decide) (by decide) rfl (Nat.le_of_ble_eq_true rfl) (fun z61 q60 => ?_)
    have q60a := q60.1
    have q60b := q60.2
    clear q60
    refine g_callVi (pc' := 161) (As := [vl z61]) (b := 53) (S := []) dX3_work_158 rfl m_X3_120 w_X3_push (c_X3_push_y X M59 iM59 z61 ⟨by omega, by omega⟩ st.tail.tail pM59.2.1) rfl ⟨_, _, _, rfl, rfl, rfl⟩ (by decide) (by decide) rfl (Nat.le_of_ble_eq_true rfl) (fun z63 M64 q62 => ?_)
    obtain ⟨iM64, fM640, eM64_53_3, eM64_53_4, pM64⟩ := q62
    have fM64 : Fr (fun c => c = 53 ∨ c = 59) M M64 := Fr.tr fM59 fM640 (fun _ z => z)
    have q53_3_M64 : id (M64 53 3 = M 53 3) := eM64_53_3.trans q53_3_M59
    have q53_4_M64 : id (M64 53 4 = M 53 4) := eM64_53_4.trans q53_4_M59
    clear eM64_53_3 eM64_53_4
    have rbM64 := pM64.b
    refine g_zreturn dX3_work_161 (by omega) ?_
    exact ⟨iM64, fM64, q53_3_M64, q53_4_M64, WKX.bin pM56 pM59 pM64 (by omega) q60b⟩
  by_cases c65 : a = 9
  · refine g_tabIn (tgt := 145) (off := 140) ha dX3_work_5 (by omega) (by omega) (by rw [c65]; rfl) rfl ?_
    refine g_aload_n (pc' := 146) 1 dX3_work_145 rfl rfl ?_
    refine g_iload_n (pc' := 147) 2 dX3_work_146 rfl rfl ?_
    refine g_aload_n (pc' := 148) 1 dX3_work_147 rfl rfl ?_
    refine g_callVl (pc' := 151) (As := []) (b := 53) (S := [vi a, vr X 53]) dX3_work_148 rfl m_X3_134 w_X3_pop (c_X3_pop_y X M hi st hst) rfl ⟨_, _, _, rfl, rfl, rfl⟩ (by decide) (by decide) rfl (Nat.le_of_ble_eq_true rfl) (fun z67 M68 q66 => ?_)
    obtain ⟨iM68, fM680, eM68_53_3, eM68_53_4, pM68⟩ := q66
    have fM68 : Fr (fun c => c = 53 ∨ c = 59) M M68 := Fr.tr Fr.rf fM680 fi_71
    have q53_3_M68 : id (M68 53 3 = M 53 3) := eM68_53_3
    have q53_4_M68 : id (M68 53 4 = M 53 4) := eM68_53_4
    clear eM68_53_3 eM68_53_4
    have pbM68 := pM68.2.2
    refine g_aload_n (pc' := 152) 1 dX3_work_151 rfl rfl ?_
    refine g_callVl (pc' := 155) (As := []) (b := 53) (S := [vl z67, vi a, vr X 53]) dX3_work_152 rfl m_X3_134 w_X3_pop (c_X3_pop_y X M68 iM68 st.tail pM68.2.1) rfl ⟨_, _, _, rfl, rfl, rfl⟩ (by decide) (by decide) rfl (Nat.le_of_ble_eq_true rfl) (fun z70 M71 q69 => ?_)
    obtain ⟨iM71, fM710, eM71_53_3, eM71_53_4, pM71⟩ := q69
    have fM71 : Fr (fun c => c = 53 ∨ c = 59) M M71 := Fr.tr fM68 fM710 fi_71
    have q53_3_M71 : id (M71 53 3 = M 53 3) := eM71_53_3.trans q53_3_M68
    have q53_4_M71 : id (M71 53 4 = M 53 4) := eM71_53_4.trans q53_4_M68
    clear eM71_53_3 eM71_53_4
    have pbM71 := pM71.2.2
    refine g_callSlp (pc' := 158) (As := [vi a, vl z67, vl z70]) (S := [vr X 53]) dX3_work_155 rfl m_X3_138 w_X3_combined (c_X3_combined_y X M71 a ha z67 ⟨by omega, by omega⟩ z70 ⟨by omega, by omega⟩ (by omega) (by omega)) rfl (by decide) (by decide) rfl (Nat.le_of_ble_eq_true rfl) (fun z73 q72 => ?_)
    have q72a := q72.1
    have q72b := q72.2
    clear q72
    refine g_callVi (pc' := 161) (As := [vl z73]) (b := 53) (S := []) dX3_work_158 rfl m_X3_120 w_X3_push (c_X3_push_y X M71 iM71 z73 ⟨by omega, by omega⟩ st.tail.tail pM71.2.1) rfl ⟨_, _, _, rfl, rfl, rfl⟩ (by decide) (by decide) rfl (Nat.le_of_ble_eq_true rfl) (fun z75 M76 q74 => ?_)
    obtain ⟨iM76, fM760, eM76_53_3, eM76_53_4, pM76⟩ := q74
    have fM76 : Fr (fun c => c = 53 ∨ c = 59) M M76 := Fr.tr fM71 fM760 (fun _ z => z)
    have q53_3_M76 : id (M76 53 3 = M 53 3) := eM76_53_3.trans q53_3_M71
    have q53_4_M76 : id (M76 53 4 = M 53 4) := eM76_53_4.trans q53_4_M71
    clear eM76_53_3 eM76_53_4
    have rbM76 := pM76.b
    refine g_zreturn dX3_work_161 (by omega) ?_
    exact ⟨iM76, fM76, q53_3_M76, q53_4_M76, WKX.bin pM68 pM71 pM76 (by omega) q72b⟩
  by_cases c77 : a = 10
  · refine g_tabIn (tgt := 145) (off := 140) ha dX3_work_5 (by omega) (by omega) (by rw [c77]; rfl) rfl ?_
    refine g_aload_n (pc' := 146) 1 dX3_work_145 rfl rfl ?_
    refine g_iload_n (pc' := 147) 2 dX3_work_146 rfl rfl ?_
    refine g_aload_n (pc' := 148) 1 dX3_work_147 rfl rfl ?_
    refine g_callVl (pc' := 151) (As := []) (b := 53) (S := [vi a, vr X 53]) dX3_work_148 rfl m_X3_134 w_X3_pop (c_X3_pop_y X M hi st hst) rfl ⟨_, _, _, rfl, rfl, rfl⟩ (by decide) (by decide) rfl (Nat.le_of_ble_eq_true rfl) (fun z79 M80 q78 => ?_)
    obtain ⟨iM80, fM800, eM80_53_3, eM80_53_4, pM80⟩ := q78
    have fM80 : Fr (fun c => c = 53 ∨ c = 59) M M80 := Fr.tr Fr.rf fM800 fi_71
    have q53_3_M80 : id (M80 53 3 = M 53 3) := eM80_53_3
    have q53_4_M80 : id (M80 53 4 = M 53 4) := eM80_53_4
    clear eM80_53_3 eM80_53_4
    have pbM80 := pM80.2.2
    refine g_aload_n (pc' := 152) 1 dX3_work_151 rfl rfl ?_
    refine g_callVl (pc' := 155) (As := []) (b := 53) (S := [vl z79, vi a, vr X 53]) dX3_work_152 rfl m_X3_134 w_X3_pop (c_X3_pop_y X M80 iM80 st.tail pM80.2.1) rfl ⟨_, _, _, rfl, rfl, rfl⟩ (by decide) (by decide) rfl (Nat.le_of_ble_eq_true rfl) (fun z82 M83 q81 => ?_)
    obtain ⟨iM83, fM830, eM83_53_3, eM83_53_4, pM83⟩ := q81
    have fM83 : Fr (fun c => c = 53 ∨ c = 59) M M83 := Fr.tr fM80 fM830 fi_71
    have q53_3_M83 : id (M83 53 3 = M 53 3) := eM83_53_3.trans q53_3_M80
    have q53_4_M83 : id (M83 53 4 = M 53 4) := eM83_53_4.trans q53_4_M80
    clear eM83_53_3 eM83_53_4
    have pbM83 := pM83.2.2
    refine g_callSlp (pc' := 158) (As := [vi a, vl z79, vl z82]) (S := [vr X 53]) dX3_work_155 rfl m_X3_138 w_X3_combined (c_X3_combined_y X M83 a ha z79 ⟨by omega, by omega⟩ z82 ⟨by omega, by omega⟩ (by omega) (by omega)) rfl (by decide) (by decide) rfl (Nat.le_of_ble_eq_true rfl) (fun z85 q84 => ?_)
    have q84a := q84.1
    have q84b := q84.2
    clear q84
    refine g_callVi (pc' := 161) (As := [vl z85]) (b := 53) (S := []) dX3_work_158 rfl m_X3_120 w_X3_push (c_X3_push_y X M83 iM83 z85 ⟨by omega, by omega⟩ st.tail.tail pM83.2.1) rfl ⟨_, _, _, rfl, rfl, rfl⟩ (by decide) (by decide) rfl (Nat.le_of_ble_eq_true rfl) (fun z87 M88 q86 => ?_)
    obtain ⟨iM88, fM880, eM88_53_3, eM88_53_4, pM88⟩ := q86
    have fM88 : Fr (fun c => c = 53 ∨ c = 59) M M88 := Fr.tr fM83 fM880 (fun _ z => z)
    have q53_3_M88 : id (M88 53 3 = M 53 3) := eM88_53_3.trans q53_3_M83
    have q53_4_M88 : id (M88 53 4 = M 53 4) := eM88_53_4.trans q53_4_M83
    clear eM88_53_3 eM88_53_4
    have rbM88 := pM88.b
    refine g_zreturn dX3_work_161 (by omega) ?_
    exact ⟨iM88, fM88, q53_3_M88, q53_4_M88, WKX.bin pM80 pM83 pM88 (by omega) q84b⟩
  by_cases c89 : a = 11
  · refine g_tabIn (tgt := 145) (off := 140) ha dX3_work_5 (by omega) (by omega) (by rw [c89]; rfl) rfl ?_
    refine g_aload_n (pc' := 146) 1 dX3_work_145 rfl rfl ?_
    refine g_iload_n (pc' := 147) 2 dX3_work_146 rfl rfl ?_
    refine g_aload_n (pc' := 148) 1 dX3_work_147 rfl rfl ?_
    refine g_callVl (pc' := 151) (As := []) (b := 53) (S := [vi a, vr X 53]) dX3_work_148 rfl m_X3_134 w_X3_pop (c_X3_pop_y X M hi st hst) rfl ⟨_, _, _, rfl, rfl, rfl⟩ (by decide) (by decide) rfl (Nat.le_of_ble_eq_true rfl) (fun z91 M92 q90 => ?_)
    obtain ⟨iM92, fM920, eM92_53_3, eM92_53_4, pM92⟩ := q90
    have fM92 : Fr (fun c => c = 53 ∨ c = 59) M M92 := Fr.tr Fr.rf fM920 fi_71
    have q53_3_M92 : id (M92 53 3 = M 53 3) := eM92_53_3
    have q53_4_M92 : id (M92 53 4 = M 53 4) := eM92_53_4
    clear eM92_53_3 eM92_53_4
    have pbM92 := pM92.2.2
    refine g_aload_n (pc' := 152) 1 dX3_work_151 rfl rfl ?_
    refine g_callVl (pc' := 155) (As := []) (b := 53) (S := [vl z91, vi a, vr X 53]) dX3_work_152 rfl m_X3_134 w_X3_pop (c_X3_pop_y X M92 iM92 st.tail pM92.2.1) rfl ⟨_, _, _, rfl, rfl, rfl⟩ (by decide) (by decide) rfl (Nat.le_of_ble_eq_true rfl) (fun z94 M95 q93 => ?_)
    obtain ⟨iM95, fM950, eM95_53_3, eM95_53_4, pM95⟩ := q93
    have fM95 : Fr (fun c => c = 53 ∨ c = 59) M M95 := Fr.tr fM92 fM950 fi_71
    have q53_3_M95 : id (M95 53 3 = M 53 3) := eM95_53_3.trans q53_3_M92
    have q53_4_M95 : id (M95 53 4 = M 53 4) := eM95_53_4.trans q53_4_M92
    clear eM95_53_3 eM95_53_4
    have pbM95 := pM95.2.2
    refine g_callSlp (pc' := 158) (As := [vi a, vl z91, vl z94]) (S := [vr X 53]) dX3_work_155 rfl m_X3_138 w_X3_combined (c_X3_combined_y X M95 a ha z91 ⟨by omega, by omega⟩ z94 ⟨by omega, by omega⟩ (by omega) (by omega)) rfl (by decide) (by decide) rfl (Nat.le_of_ble_eq_true rfl) (fun z97 q96 => ?_)
    have q96a := q96.1
    have q96b := q96.2
    clear q96
    refine g_callVi (pc' := 161) (As := [vl z97]) (b := 53) (S := []) dX3_work_158 rfl m_X3_120 w_X3_push (c_X3_push_y X M95 iM95 z97 ⟨by omega, by omega⟩ st.tail.tail pM95.2.1) rfl ⟨_, _, _, rfl, rfl, rfl⟩ (by decide) (by decide) rfl (Nat.le_of_ble_eq_true rfl) (fun z99 M100 q98 => ?_)
    obtain ⟨iM100, fM1000, eM100_53_3, eM100_53_4, pM100⟩ := q98
    have fM100 : Fr (fun c => c = 53 ∨ c = 59) M M100 := Fr.tr fM95 fM1000 (fun _ z => z)
    have q53_3_M100 : id (M100 53 3 = M 53 3) := eM100_53_3.trans q53_3_M95
    have q53_4_M100 : id (M100 53 4 = M 53 4) := eM100_53_4.trans q53_4_M95
    clear eM100_53_3 eM100_53_4
    have rbM100 := pM100.b
    refine g_zreturn dX3_work_161 (by omega) ?_
    exact ⟨iM100, fM100, q53_3_M100, q53_4_M100, WKX.bin pM92 pM95 pM100 (by omega) q96b⟩
  by_cases c101 : a = 12
  · refine g_tabIn (tgt := 145) (off := 140) ha dX3_work_5 (by omega) (by omega) (by rw [c101]; rfl) rfl ?_
    refine g_aload_n (pc' := 146) 1 dX3_work_145 rfl rfl ?_
    refine g_iload_n (pc' := 147) 2 dX3_work_146 rfl rfl ?_
    refine g_aload_n (pc' := 148) 1 dX3_work_147 rfl rfl ?_
    refine g_callVl (pc' := 151) (As := []) (b := 53) (S := [vi a, vr X 53]) dX3_work_148 rfl m_X3_134 w_X3_pop (c_X3_pop_y X M hi st hst) rfl ⟨_, _, _, rfl, rfl, rfl⟩ (by decide) (by decide) rfl (Nat.le_of_ble_eq_true rfl) (fun z103 M104 q102 => ?_)
    obtain ⟨iM104, fM1040, eM104_53_3, eM104_53_4, pM104⟩ := q102
    have fM104 : Fr (fun c => c = 53 ∨ c = 59) M M104 := Fr.tr Fr.rf fM1040 fi_71
    have q53_3_M104 : id (M104 53 3 = M 53 3) := eM104_53_3
    have q53_4_M104 : id (M104 53 4 = M 53 4) := eM104_53_4
    clear eM104_53_3 eM104_53_4
    have pbM104 := pM104.2.2
    refine g_aload_n (pc' := 152) 1 dX3_work_151 rfl rfl ?_
    refine g_callVl (pc' := 155) (As := []) (b := 53) (S := [vl z103, vi a, vr X 53]) dX3_work_152 rfl m_X3_134 w_X3_pop (c_X3_pop_y X M104 iM104 st.tail pM104.2.1) rfl ⟨_, _, _, rfl, rfl, rfl⟩ (by decide) (by decide) rfl (Nat.le_of_ble_eq_true rfl) (fun z106 M107 q105 => ?_)
    obtain ⟨iM107, fM1070, eM107_53_3, eM107_53_4, pM107⟩ := q105
    have fM107 : Fr (fun c => c = 53 ∨ c = 59) M M107 := Fr.tr fM104 fM1070 fi_71
    have q53_3_M107 : id (M107 53 3 = M 53 3) := eM107_53_3.trans q53_3_M104
    have q53_4_M107 : id (M107 53 4 = M 53 4) := eM107_53_4.trans q53_4_M104
    clear eM107_53_3 eM107_53_4
    have pbM107 := pM107.2.2
    refine g_callSlp (pc' := 158) (As := [vi a, vl z103, vl z106]) (S := [vr X 53]) dX3_work_155 rfl m_X3_138 w_X3_combined (c_X3_combined_y X M107 a ha z103 ⟨by omega, by omega⟩ z106 ⟨by omega, by omega⟩ (by omega) (by omega)) rfl (by decide) (by decide) rfl (Nat.le_of_ble_eq_true rfl) (fun z109 q108 => ?_)
    have q108a := q108.1
    have q108b := q108.2
    clear q108
    refine g_callVi (pc' := 161) (As := [vl z109]) (b := 53) (S := []) dX3_work_158 rfl m_X3_120 w_X3_push (c_X3_push_y X M107 iM107 z109 ⟨by omega, by omega⟩ st.tail.tail pM107.2.1) rfl ⟨_, _, _, rfl, rfl, rfl⟩ (by decide) (by decide) rfl (Nat.le_of_ble_eq_true rfl) (fun z111 M112 q110 => ?_)
    obtain ⟨iM112, fM1120, eM112_53_3, eM112_53_4, pM112⟩ := q110
    have fM112 : Fr (fun c => c = 53 ∨ c = 59) M M112 := Fr.tr fM107 fM1120 (fun _ z => z)
    have q53_3_M112 : id (M112 53 3 = M 53 3) := eM112_53_3.trans q53_3_M107
    have q53_4_M112 : id (M112 53 4 = M 53 4) := eM112_53_4.trans q53_4_M107
    clear eM112_53_3 eM112_53_4
    have rbM112 := pM112.b
    refine g_zreturn dX3_work_161 (by omega) ?_
    exact ⟨iM112, fM112, q53_3_M112, q53_4_M112, WKX.bin pM104 pM107 pM112 (by omega) q108b⟩
  by_cases c113 : a = 13
  · refine g_tabIn (tgt := 134) (off := 129) ha dX3_work_5 (by omega) (by omega) (by rw [c113]; rfl) rfl ?_
    refine g_aload_n (pc' := 135) 1 dX3_work_134 rfl rfl ?_
    refine g_lconst (pc' := 136) (v := 1) dX3_work_135 rfl (by decide) ?_
    refine g_aload_n (pc' := 137) 1 dX3_work_136 rfl rfl ?_
    refine g_callVl (pc' := 140) (As := []) (b := 53) (S := [vl 1, vr X 53]) dX3_work_137 rfl m_X3_134 w_X3_pop (c_X3_pop_y X M hi st hst) rfl ⟨_, _, _, rfl, rfl, rfl⟩ (by decide) (by decide) rfl (Nat.le_of_ble_eq_true rfl) (fun z115 M116 q114 => ?_)
    obtain ⟨iM116, fM1160, eM116_53_3, eM116_53_4, pM116⟩ := q114
    have fM116 : Fr (fun c => c = 53 ∨ c = 59) M M116 := Fr.tr Fr.rf fM1160 fi_71
    have q53_3_M116 : id (M116 53 3 = M 53 3) := eM116_53_3
    have q53_4_M116 : id (M116 53 4 = M 53 4) := eM116_53_4
    clear eM116_53_3 eM116_53_4
    have pbM116 := pM116.2.2
    refine g_lsub (pc' := 141) dX3_work_140 rfl ?_
    refine g_callVi (pc' := 144) (As := [vl (1 - z115)]) (b := 53) (S := []) dX3_work_141 rfl m_X3_120 w_X3_push (c_X3_push_y X M116 iM116 (1 - z115) ⟨by omega, by omega⟩ st.tail pM116.2.1) rfl ⟨_, _, _, rfl, rfl, rfl⟩ (by decide) (by decide) rfl (Nat.le_of_ble_eq_true rfl) (fun z118 M119 q117 => ?_)
    obtain ⟨iM119, fM1190, eM119_53_3, eM119_53_4, pM119⟩ := q117
    have fM119 : Fr (fun c => c = 53 ∨ c = 59) M M119 := Fr.tr fM116 fM1190 (fun _ z => z)
    have q53_3_M119 : id (M119 53 3 = M 53 3) := eM119_53_3.trans q53_3_M116
    have q53_4_M119 : id (M119 53 4 = M 53 4) := eM119_53_4.trans q53_4_M116
    clear eM119_53_3 eM119_53_4
    have rbM119 := pM119.b
    refine g_zreturn dX3_work_144 (by omega) ?_
    exact ⟨iM119, fM119, q53_3_M119, q53_4_M119, WKX.not_ pM116 pM119 (by omega) rfl⟩
  refine g_tabOut (tgt := 145) ha dX3_work_5 (by omega) rfl ?_
  refine g_aload_n (pc' := 146) 1 dX3_work_145 rfl rfl ?_
  refine g_iload_n (pc' := 147) 2 dX3_work_146 rfl rfl ?_
  refine g_aload_n (pc' := 148) 1 dX3_work_147 rfl rfl ?_
  refine g_callVl (pc' := 151) (As := []) (b := 53) (S := [vi a, vr X 53]) dX3_work_148 rfl m_X3_134 w_X3_pop (c_X3_pop_y X M hi st hst) rfl ⟨_, _, _, rfl, rfl, rfl⟩ (by decide) (by decide) rfl (Nat.le_of_ble_eq_true rfl) (fun z122 M123 q121 => ?_)
  obtain ⟨iM123, fM1230, eM123_53_3, eM123_53_4, pM123⟩ := q121
  have fM123 : Fr (fun c => c = 53 ∨ c = 59) M M123 := Fr.tr Fr.rf fM1230 fi_71
  have q53_3_M123 : id (M123 53 3 = M 53 3) := eM123_53_3
  have q53_4_M123 : id (M123 53 4 = M 53 4) := eM123_53_4
  clear eM123_53_3 eM123_53_4
  have pbM123 := pM123.2.2
  refine g_aload_n (pc' := 152) 1 dX3_work_151 rfl rfl ?_
  refine g_callVl (pc' := 155) (As := []) (b := 53) (S := [vl z122, vi a, vr X 53]) dX3_work_152 rfl m_X3_134 w_X3_pop (c_X3_pop_y X M123 iM123 st.tail pM123.2.1) rfl ⟨_, _, _, rfl, rfl, rfl⟩ (by decide) (by decide) rfl (Nat.le_of_ble_eq_true rfl) (fun z125 M126 q124 => ?_)
  obtain ⟨iM126, fM1260, eM126_53_3, eM126_53_4, pM126⟩ := q124
  have fM126 : Fr (fun c => c = 53 ∨ c = 59) M M126 := Fr.tr fM123 fM1260 fi_71
  have q53_3_M126 : id (M126 53 3 = M 53 3) := eM126_53_3.trans q53_3_M123
  have q53_4_M126 : id (M126 53 4 = M 53 4) := eM126_53_4.trans q53_4_M123
  clear eM126_53_3 eM126_53_4
  have pbM126 := pM126.2.2
  refine g_callSlp (pc' := 158) (As := [vi a, vl z122, vl z125]) (S := [vr X 53]) dX3_work_155 rfl m_X3_138 w_X3_combined (c_X3_combined_y X M126 a ha z122 ⟨by omega, by omega⟩ z125 ⟨by omega, by omega⟩ (by omega) (by omega)) rfl (by decide) (by decide) rfl (Nat.le_of_ble_eq_true rfl) (fun z128 q127 => ?_)
  have q127a := q127.1
  have q127b := q127.2
  clear q127
  refine g_callVi (pc' := 161) (As := [vl z128]) (b := 53) (S := []) dX3_work_158 rfl m_X3_120 w_X3_push (c_X3_push_y X M126 iM126 z128 ⟨by omega, by omega⟩ st.tail.tail pM126.2.1) rfl ⟨_, _, _, rfl, rfl, rfl⟩ (by decide) (by decide) rfl (Nat.le_of_ble_eq_true rfl) (fun z130 M131 q129 => ?_)
  obtain ⟨iM131, fM1310, eM131_53_3, eM131_53_4, pM131⟩ := q129
  have fM131 : Fr (fun c => c = 53 ∨ c = 59) M M131 := Fr.tr fM126 fM1310 (fun _ z => z)
  have q53_3_M131 : id (M131 53 3 = M 53 3) := eM131_53_3.trans q53_3_M126
  have q53_4_M131 : id (M131 53 4 = M 53 4) := eM131_53_4.trans q53_4_M126
  clear eM131_53_3 eM131_53_4
  have rbM131 := pM131.b
  refine g_zreturn dX3_work_161 (by omega) ?_
  exact ⟨iM131, fM131, q53_3_M131, q53_4_M131, WKX.bin pM123 pM126 pM131 (by omega) q127b⟩
set_option maxHeartbeats 4000000 in
set_option maxRecDepth 100000 in
theorem l_X3_works_y_11 (X : Cx) (M : Mm) (hi : IC M) (a : Int) (ha : inI a) (b : Int) (hb : inI b) (ta tb : Nat) (n : Int) (P : Nat → Int) (L : Int) (F Z m z : Nat → Int) (tv : TV M 54 ta tb n P L F Z) (pap : PAP n P L F Z m z) (hdn : 0 ≤ M 53 3 ∧ M 53 3 ≤ 1000) (hab : 0 ≤ a ∧ b ≤ M 37 4) (l : Int) (f : Mng) (mc : MC (M 39) (M 40) a.toNat b.toNat l f) (hl : l ≤ 50) : ∀ (kk : Nat) (go : Int) (i : Int) (M1 : Mm) (ic1 : IC M1) (fr1 : Fr (fun c => c = 53 ∨ c = 59) M M1) (q53_3 : id (M1 53 3 = M 53 3)) (q53_4 : id (M1 53 4 = M 53 4)) (hg : inI go) (h0 : a ≤ i ∧ i ≤ b) (sl : List Int) (sk : STK M1 sl) (wr : wkR (M 39) (M 40) (evE n (M 53 3) m z) (b - i).toNat i.toNat (go, sl) = wkR (M 39) (M 40) (evE n (M 53 3) m z) (b.toNat - a.toNat) a.toNat ((a.toNat : Int), [])), (b - i).toNat = kk → G X 3 RX3 cX3_works 8 (some .boolean) (Qi (fun r M1 => IC M1 ∧ Fr (fun c => c = 53 ∨ c = 59) M M1 ∧ M1 53 3 = M 53 3 ∧ M1 53 4 = M 53 4 ∧ (WOX (evE n (M 53 3) m z) f M1 r))) 11 [(4, vi go), (5, vi i), (0, vr X 53), (1, vr X 37), (3, vi b)] [] M1 := by
  intro kk
  induction kk using Nat.strongRecOn with
  | ind kk ih =>
    intro go i M1 ic1 fr1 q53_3 q53_4 hg h0 sl sk wr hmes
    have mc1 := mc.1
    have hE := evE_b pap hdn
    have ih2 := ic1.2.2.2.2
    refine g_iload (pc' := 13) 1 dX3_works_11 rfl rfl ?_
    refine g_iload_n (pc' := 14) 4 dX3_works_13 rfl rfl ?_
    refine g_ic_ge (pc' := 17) (tgt := 108) ⟨by omega, by omega⟩ hb dX3_works_14 rfl rfl (fun c1 => ?_) (fun c1 => ?_)
    · refine g_aload_n (pc' := 109) 2 dX3_works_108 rfl rfl ?_
      refine g_getI (pc' := 112) dX3_works_109 rfl f_X3_99 rfl rfl (fun v2 ev2 rv2 => ?_)
      have bv2 : 0 ≤ v2 ∧ v2 ≤ 50 := by rw [ev2]; exact ic1.2.2.2.2
      refine g_iconst (pc' := 113) dX3_works_112 rfl ?_
      refine g_ic_ne (pc' := 116) (tgt := 120) rv2 (by decide) dX3_works_113 rfl rfl (fun c3 => ?_) (fun c3 => ?_)
      · refine g_iconst (pc' := 121) dX3_works_120 rfl ?_
        refine g_zreturn dX3_works_121 (by omega) ?_
        have wz : some (go, sl) = wkR (M 39) (M 40) (evE n (M 53 3) m z) (b.toNat - a.toNat) a.toNat ((a.toNat : Int), []) := by
          have q := wr
          rw [show (b - i).toNat = 0 by omega] at q
          exact q
        exact ⟨ic1, fr1, q53_3, q53_4, WOX.end_ mc hl hE wz sk (by omega) (by omega)⟩
      · refine g_iconst (pc' := 117) dX3_works_116 rfl ?_
        refine g_goto (tgt := 121) dX3_works_117 rfl ?_
        refine g_zreturn dX3_works_121 (by omega) ?_
        have wz : some (go, sl) = wkR (M 39) (M 40) (evE n (M 53 3) m z) (b.toNat - a.toNat) a.toNat ((a.toNat : Int), []) := by
          have q := wr
          rw [show (b - i).toNat = 0 by omega] at q
          exact q
        exact ⟨ic1, fr1, q53_3, q53_4, WOX.end_ mc hl hE wz sk (by omega) (by omega)⟩
    · refine g_iload (pc' := 19) 1 dX3_works_17 rfl rfl ?_
      refine g_aload_n (pc' := 20) 3 dX3_works_19 rfl rfl ?_
      refine g_getI (pc' := 23) dX3_works_20 rfl f_X3_102 rfl rfl (fun v4 ev4 rv4 => ?_)
      have bv4 : 0 ≤ v4 ∧ v4 ≤ 400 := by rw [ev4]; exact ic1.2.2.2.1.1
      have gv4 : v4 = M 37 4 := by rw [ev4, fr1 37 (by decide)]
      refine g_ic_ge (pc' := 26) (tgt := 108) ⟨by omega, by omega⟩ rv4 dX3_works_23 rfl rfl (fun c5 => ?_) (fun c5 => ?_)
      · refine g_aload_n (pc' := 109) 2 dX3_works_108 rfl rfl ?_
        refine g_getI (pc' := 112) dX3_works_109 rfl f_X3_99 rfl rfl (fun v6 ev6 rv6 => ?_)
        have bv6 : 0 ≤ v6 ∧ v6 ≤ 50 := by rw [ev6]; exact ic1.2.2.2.2
        refine g_iconst (pc' := 113) dX3_works_112 rfl ?_
        refine g_ic_ne (pc' := 116) (tgt := 120) rv6 (by decide) dX3_works_113 rfl rfl (fun c7 => ?_) (fun c7 => ?_)
        · refine g_iconst (pc' := 121) dX3_works_120 rfl ?_
          refine g_zreturn dX3_works_121 (by omega) ?_
          have wz : some (go, sl) = wkR (M 39) (M 40) (evE n (M 53 3) m z) (b.toNat - a.toNat) a.toNat ((a.toNat : Int), []) := by
            have q := wr
            rw [show (b - i).toNat = 0 by omega] at q
            exact q
          exact ⟨ic1, fr1, q53_3, q53_4, WOX.end_ mc hl hE wz sk (by omega) (by omega)⟩
        · refine g_iconst (pc' := 117) dX3_works_116 rfl ?_
          refine g_goto (tgt := 121) dX3_works_117 rfl ?_
          refine g_zreturn dX3_works_121 (by omega) ?_
          have wz : some (go, sl) = wkR (M 39) (M 40) (evE n (M 53 3) m z) (b.toNat - a.toNat) a.toNat ((a.toNat : Int), []) := by
            have q := wr
            rw [show (b - i).toNat = 0 by omega] at q
            exact q
          exact ⟨ic1, fr1, q53_3, q53_4, WOX.end_ mc hl hE wz sk (by omega) (by omega)⟩
      · have wr1 : wkR (M 39) (M 40) (evE n (M 53 3) m z) ((b - (i + 1)).toNat + 1) i.toNat (go, sl) = wkR (M 39) (M 40) (evE n (M 53 3) m z) (b.toNat - a.toNat) a.toNat ((a.toNat : Int), []) := by rw [show (b - (i + 1)).toNat + 1 = (b - i).toNat by omega]; exact wr
        refine g_aload_n (pc' := 27) 3 dX3_works_26 rfl rfl ?_
        refine g_getR (pc' := 30) dX3_works_27 rfl f_X3_105 rfl rfl ?_
        refine g_iload (pc' := 32) 1 dX3_works_30 rfl rfl ?_
        refine g_iald (pc' := 33) dX3_works_32 rfl rfl (by omega) (by omega) (fun v8 ev8 rv8 => ?_)
        have gv8 : v8 = M 39 i.toNat := by rw [ev8, fr1 39 (by decide)]
        refine g_istore (pc' := 35) (L' := [(6, vi v8), (4, vi go), (5, vi i), (0, vr X 53), (1, vr X 37), (3, vi b)]) dX3_works_33 rfl (by decide) rfl ?_
        refine g_aload_n (pc' := 36) 4 dX3_works_35 rfl rfl ?_
        refine g_getR (pc' := 39) dX3_works_36 rfl f_X3_109 rfl rfl ?_
        refine g_iload (pc' := 41) 2 dX3_works_39 rfl rfl ?_
        refine g_iald (pc' := 42) dX3_works_41 rfl rfl (by omega) (by omega) (fun v9 ev9 rv9 => ?_)
        have gv9 : v9 = M 40 i.toNat := by rw [ev9, fr1 40 (by decide)]
        refine g_istore (pc' := 44) (L' := [(7, vi v9), (6, vi v8), (4, vi go), (5, vi i), (0, vr X 53), (1, vr X 37), (3, vi b)]) dX3_works_42 rfl (by decide) rfl ?_
        refine g_iload (pc' := 46) 3 dX3_works_44 rfl rfl ?_
        refine g_iload (pc' := 48) 2 dX3_works_46 rfl rfl ?_
        refine g_ic_ge (pc' := 51) (tgt := 54) ⟨by omega, by omega⟩ ⟨by omega, by omega⟩ dX3_works_48 rfl rfl (fun c10 => ?_) (fun c10 => ?_)
        · refine g_iload (pc' := 56) 1 dX3_works_54 rfl rfl ?_
          refine g_bipush (pc' := 58) (v := 14) dX3_works_56 rfl (by decide) ?_
          refine g_ic_eq (pc' := 61) (tgt := 68) rv8 (by decide) dX3_works_58 rfl rfl (fun c11 => ?_) (fun c11 => ?_)
          · refine g_aload_n (pc' := 69) 4 dX3_works_68 rfl rfl ?_
            refine g_iload (pc' := 71) 1 dX3_works_69 rfl rfl ?_
            refine g_callVi (pc' := 74) (As := [vi v8]) (b := 53) (S := []) dX3_works_71 rfl m_X3_112 w_X3_isSettled (c_X3_isSettled_y X M1 ic1 v8 rv8 sl sk (by omega)) rfl ⟨_, _, _, rfl, rfl, rfl⟩ (by decide) (by decide) rfl (Nat.le_of_ble_eq_true rfl) (fun z13 M14 q12 => ?_)
            obtain ⟨iM14, fM140, eM14_53_3, eM14_53_4, pM14⟩ := q12
            have fM14 : Fr (fun c => c = 53 ∨ c = 59) M M14 := Fr.tr fr1 fM140 fi_71
            have q53_3_M14 : id (M14 53 3 = M 53 3) := eM14_53_3.trans q53_3
            have q53_4_M14 : id (M14 53 4 = M 53 4) := eM14_53_4.trans q53_4
            clear eM14_53_3 eM14_53_4
            have rbM14 := pM14.b
            obtain ⟨sl2, sk2, wr2⟩ := wr_ao wr1 (by omega) (show v8 = M 39 i.toNat by omega) (by omega) pM14
            refine g_if_eq (pc' := 77) (tgt := 82) ⟨by omega, by omega⟩ dX3_works_74 rfl rfl (fun c15 => ?_) (fun c15 => ?_)
            · rw [if_pos (by omega)] at wr2
              refine g_iload (pc' := 84) 2 dX3_works_82 rfl rfl ?_
              refine g_istore (pc' := 86) (L' := [(4, vi go), (7, vi v9), (6, vi v8), (5, vi i), (0, vr X 53), (1, vr X 37), (3, vi b)]) dX3_works_84 rfl (by decide) rfl ?_
              refine g_goto (tgt := 102) dX3_works_86 rfl ?_
              refine g_iinc (pc' := 105) (L' := [(5, vi (i + 1)), (4, vi go), (7, vi v9), (6, vi v8), (0, vr X 53), (1, vr X 37), (3, vi b)]) 3 dX3_works_102 rfl rfl (by decide) rfl ?_
              refine g_goto (tgt := 11) dX3_works_105 rfl ?_
              refine g_sub [1, 0, 4, 5, 6] rfl ?_
              exact ih _ (by omega) go (i + 1) M14 iM14 fM14 q53_3_M14 q53_4_M14 (by first | assumption | exact ⟨by omega, by omega⟩) (by omega) sl2 sk2 (by rw [show (i + 1).toNat = i.toNat + 1 by omega]; exact wr2) rfl
            · rw [if_neg (by omega), ← gv9] at wr2
              refine g_iload (pc' := 79) 0 dX3_works_77 rfl rfl ?_
              refine g_goto (tgt := 84) dX3_works_79 rfl ?_
              refine g_istore (pc' := 86) (L' := [(4, vi v9), (7, vi v9), (6, vi v8), (5, vi i), (0, vr X 53), (1, vr X 37), (3, vi b)]) dX3_works_84 rfl (by decide) rfl ?_
              refine g_goto (tgt := 102) dX3_works_86 rfl ?_
              refine g_iinc (pc' := 105) (L' := [(5, vi (i + 1)), (4, vi v9), (7, vi v9), (6, vi v8), (0, vr X 53), (1, vr X 37), (3, vi b)]) 3 dX3_works_102 rfl rfl (by decide) rfl ?_
              refine g_goto (tgt := 11) dX3_works_105 rfl ?_
              refine g_sub [1, 0, 4, 5, 6] rfl ?_
              exact ih _ (by omega) v9 (i + 1) M14 iM14 fM14 q53_3_M14 q53_4_M14 (by first | assumption | exact ⟨by omega, by omega⟩) (by omega) sl2 sk2 (by rw [show (i + 1).toNat = i.toNat + 1 by omega]; exact wr2) rfl
          · refine g_iload (pc' := 63) 1 dX3_works_61 rfl rfl ?_
            refine g_bipush (pc' := 65) (v := 15) dX3_works_63 rfl (by decide) ?_
            refine g_ic_ne (pc' := 68) (tgt := 89) rv8 (by decide) dX3_works_65 rfl rfl (fun c16 => ?_) (fun c16 => ?_)
            · refine g_aload_n (pc' := 90) 4 dX3_works_89 rfl rfl ?_
              refine g_iload (pc' := 92) 1 dX3_works_90 rfl rfl ?_
              refine g_iload (pc' := 94) 0 dX3_works_92 rfl rfl ?_
              refine g_callVi (pc' := 97) (As := [vi v8, vi v9]) (b := 53) (S := []) dX3_works_94 rfl m_X3_116 w_X3_work (c_X3_work_y X M1 ic1 v8 rv8 v9 rv9 ta tb n P L F Z m z (TV.far tv fr1 (fun c z => by unfold inT; first | omega | (dsimp only at z; omega))) pap (by have q : M1 53 3 = M 53 3 := q53_3; omega) sl sk (fun y1 y2 => by have q := mc.2.2.1 i.toNat (by omega) (by omega) (by omega) (by omega); omega)) rfl ⟨_, _, _, rfl, rfl, rfl⟩ (by decide) (by decide) rfl (Nat.le_of_ble_eq_true rfl) (fun z18 M19 q17 => ?_)
              obtain ⟨iM19, fM190, eM19_53_3, eM19_53_4, pM19⟩ := q17
              have fM19 : Fr (fun c => c = 53 ∨ c = 59) M M19 := Fr.tr fr1 fM190 (fun _ z => z)
              have q53_3_M19 : id (M19 53 3 = M 53 3) := eM19_53_3.trans q53_3
              have q53_4_M19 : id (M19 53 4 = M 53 4) := eM19_53_4.trans q53_4
              clear eM19_53_3 eM19_53_4
              rw [show M1 53 3 = M 53 3 from q53_3] at pM19
              have ww := wr_w wr1 (by omega) (show v8 = M 39 i.toNat by omega) (show v9 = M 40 i.toNat by omega) (by omega) (by omega) pM19
              have wz : z18 = 0 ∨ z18 = 1 := by
                rcases pM19 with q | q
                · exact Or.inr q.1
                · exact Or.inl q.1
              refine g_if_ne (pc' := 100) (tgt := 102) ⟨by omega, by omega⟩ dX3_works_97 rfl rfl (fun c20 => ?_) (fun c20 => ?_)
              · obtain ⟨sl2, sk2, wr2⟩ := ww.1 (by omega)
                refine g_iinc (pc' := 105) (L' := [(5, vi (i + 1)), (7, vi v9), (6, vi v8), (4, vi go), (0, vr X 53), (1, vr X 37), (3, vi b)]) 3 dX3_works_102 rfl rfl (by decide) rfl ?_
                refine g_goto (tgt := 11) dX3_works_105 rfl ?_
                refine g_sub [3, 0, 4, 5, 6] rfl ?_
                exact ih _ (by omega) go (i + 1) M19 iM19 fM19 q53_3_M19 q53_4_M19 (by first | assumption | exact ⟨by omega, by omega⟩) (by omega) sl2 sk2 (by rw [show (i + 1).toNat = i.toNat + 1 by omega]; exact wr2) rfl
              · have zn := ww.2 (by omega)
                refine g_iconst (pc' := 101) dX3_works_100 rfl ?_
                refine g_zreturn dX3_works_101 (by omega) ?_
                exact ⟨iM19, fM19, q53_3_M19, q53_4_M19, WOX.bad mc hl hE zn.symm rfl⟩
            · refine g_aload_n (pc' := 69) 4 dX3_works_68 rfl rfl ?_
              refine g_iload (pc' := 71) 1 dX3_works_69 rfl rfl ?_
              refine g_callVi (pc' := 74) (As := [vi v8]) (b := 53) (S := []) dX3_works_71 rfl m_X3_112 w_X3_isSettled (c_X3_isSettled_y X M1 ic1 v8 rv8 sl sk (by omega)) rfl ⟨_, _, _, rfl, rfl, rfl⟩ (by decide) (by decide) rfl (Nat.le_of_ble_eq_true rfl) (fun z22 M23 q21 => ?_)
              obtain ⟨iM23, fM230, eM23_53_3, eM23_53_4, pM23⟩ := q21
              have fM23 : Fr (fun c => c = 53 ∨ c = 59) M M23 := Fr.tr fr1 fM230 fi_71
              have q53_3_M23 : id (M23 53 3 = M 53 3) := eM23_53_3.trans q53_3
              have q53_4_M23 : id (M23 53 4 = M 53 4) := eM23_53_4.trans q53_4
              clear eM23_53_3 eM23_53_4
              have rbM23 := pM23.b
              obtain ⟨sl2, sk2, wr2⟩ := wr_ao wr1 (by omega) (show v8 = M 39 i.toNat by omega) (by omega) pM23
              refine g_if_eq (pc' := 77) (tgt := 82) ⟨by omega, by omega⟩ dX3_works_74 rfl rfl (fun c24 => ?_) (fun c24 => ?_)
              · rw [if_pos (by omega)] at wr2
                refine g_iload (pc' := 84) 2 dX3_works_82 rfl rfl ?_
                refine g_istore (pc' := 86) (L' := [(4, vi go), (7, vi v9), (6, vi v8), (5, vi i), (0, vr X 53), (1, vr X 37), (3, vi b)]) dX3_works_84 rfl (by decide) rfl ?_
                refine g_goto (tgt := 102) dX3_works_86 rfl ?_
                refine g_iinc (pc' := 105) (L' := [(5, vi (i + 1)), (4, vi go), (7, vi v9), (6, vi v8), (0, vr X 53), (1, vr X 37), (3, vi b)]) 3 dX3_works_102 rfl rfl (by decide) rfl ?_
                refine g_goto (tgt := 11) dX3_works_105 rfl ?_
                refine g_sub [1, 0, 4, 5, 6] rfl ?_
                exact ih _ (by omega) go (i + 1) M23 iM23 fM23 q53_3_M23 q53_4_M23 (by first | assumption | exact ⟨by omega, by omega⟩) (by omega) sl2 sk2 (by rw [show (i + 1).toNat = i.toNat + 1 by omega]; exact wr2) rfl
              · rw [if_neg (by omega), ← gv9] at wr2
                refine g_iload (pc' := 79) 0 dX3_works_77 rfl rfl ?_
                refine g_goto (tgt := 84) dX3_works_79 rfl ?_
                refine g_istore (pc' := 86) (L' := [(4, vi v9), (7, vi v9), (6, vi v8), (5, vi i), (0, vr X 53), (1, vr X 37), (3, vi b)]) dX3_works_84 rfl (by decide) rfl ?_
                refine g_goto (tgt := 102) dX3_works_86 rfl ?_
                refine g_iinc (pc' := 105) (L' := [(5, vi (i + 1)), (4, vi v9), (7, vi v9), (6, vi v8), (0, vr X 53), (1, vr X 37), (3, vi b)]) 3 dX3_works_102 rfl rfl (by decide) rfl ?_
                refine g_goto (tgt := 11) dX3_works_105 rfl ?_
                refine g_sub [1, 0, 4, 5, 6] rfl ?_
                exact ih _ (by omega) v9 (i + 1) M23 iM23 fM23 q53_3_M23 q53_4_M23 (by first | assumption | exact ⟨by omega, by omega⟩) (by omega) sl2 sk2 (by rw [show (i + 1).toNat = i.toNat + 1 by omega]; exact wr2) rfl
        · have wr2 := wr_skip wr1 (by omega)
          refine g_goto (tgt := 102) dX3_works_51 rfl ?_
          refine g_iinc (pc' := 105) (L' := [(5, vi (i + 1)), (7, vi v9), (6, vi v8), (4, vi go), (0, vr X 53), (1, vr X 37), (3, vi b)]) 3 dX3_works_102 rfl rfl (by decide) rfl ?_
          refine g_goto (tgt := 11) dX3_works_105 rfl ?_
          refine g_sub [3, 0, 4, 5, 6] rfl ?_
          exact ih _ (by omega) go (i + 1) M1 ic1 fr1 q53_3 q53_4 (by first | assumption | exact ⟨by omega, by omega⟩) (by omega) sl sk (by rw [show (i + 1).toNat = i.toNat + 1 by omega]; exact wr2) rfl
set_option maxHeartbeats 4000000 in
set_option maxRecDepth 100000 in
theorem c_X3_works_y (X : Cx) (M : Mm) (hi : IC M) (a : Int) (ha : inI a) (b : Int) (hb : inI b) (ta tb : Nat) (n : Int) (P : Nat → Int) (L : Int) (F Z m z : Nat → Int) (tv : TV M 54 ta tb n P L F Z) (pap : PAP n P L F Z m z) (hdn : 0 ≤ M 53 3 ∧ M 53 3 ≤ 1000) (hab : 0 ≤ a ∧ b ≤ M 37 4) (l : Int) (f : Mng) (mc : MC (M 39) (M 40) a.toNat b.toNat l f) (hl : l ≤ 50) : Con X 3 yX3_works cX3_works 8 (some .boolean) [vr X 53, vr X 37, vi a, vi b] M (Qi (fun r M1 => IC M1 ∧ Fr (fun c => c = 53 ∨ c = 59) M M1 ∧ M1 53 3 = M 53 3 ∧ M1 53 4 = M 53 4 ∧ (WOX (evE n (M 53 3) m z) f M1 r))) := by
  refine Con.ofG rfl (Nat.le_of_ble_eq_true rfl) ?_
  show G X 3 RX3 cX3_works 8 (some .boolean) (Qi (fun r M1 => IC M1 ∧ Fr (fun c => c = 53 ∨ c = 59) M M1 ∧ M1 53 3 = M 53 3 ∧ M1 53 4 = M 53 4 ∧ (WOX (evE n (M 53 3) m z) f M1 r))) 0 [(0, vr X 53), (1, vr X 37), (2, vi a), (3, vi b)] [] M
  have mc1 := mc.1
  have hE := evE_b pap hdn
  refine g_aload_n (pc' := 1) 0 dX3_works_0 rfl rfl ?_
  refine g_iconst (pc' := 2) dX3_works_1 rfl ?_
  refine g_putI (pc' := 5) dX3_works_2 rfl p_X3_99 rfl rfl (by decide) (fun M1 hM1 => ?_)
  have iM1 : IC M1 := IC.wr hi hM1 (by unfold okw isT; first | decide | omega)
  have fM1 : Fr (fun c => c = 53 ∨ c = 59) M M1 := Fr.wr Fr.rf hM1 (by first | decide | omega | (dsimp only; omega))
  have q53_3_M1 : id (M1 53 3 = M 53 3) := (show M1 53 3 = M 53 3 by rw [hM1]; exact mu_ne _ _ (by first | decide | omega))
  have q53_4_M1 : id (M1 53 4 = M 53 4) := (show M1 53 4 = M 53 4 by rw [hM1]; exact mu_ne _ _ (by first | decide | omega))
  have xM1_53_2 : M1 53 2 = 0 := by rw [hM1]; exact mu_at _ _ _ _
  refine g_iload_n (pc' := 6) 2 dX3_works_5 rfl rfl ?_
  refine g_istore (pc' := 8) (L' := [(4, vi a), (0, vr X 53), (1, vr X 37), (2, vi a), (3, vi b)]) dX3_works_6 rfl (by decide) rfl ?_
  refine g_iload_n (pc' := 9) 3 dX3_works_8 rfl rfl ?_
  refine g_istore (pc' := 11) (L' := [(5, vi a), (4, vi a), (0, vr X 53), (1, vr X 37), (2, vi a), (3, vi b)]) dX3_works_9 rfl (by decide) rfl ?_
  refine g_sub [1, 0, 2, 3, 5] rfl ?_
  exact l_X3_works_y_11 X M hi a ha b hb ta tb n P L F Z m z tv pap hdn hab l f mc hl _ a a M1 iM1 fM1 q53_3_M1 q53_4_M1 (by first | assumption | exact ⟨by omega, by omega⟩) (by omega) [] (STK.nil (by omega)) (by rw [show (b - a).toNat = b.toNat - a.toNat by omega, show ((a.toNat : Nat) : Int) = a by omega]) rfl
set_option maxHeartbeats 4000000 in
set_option maxRecDepth 100000 in
theorem c_X3_isSo_y (X : Cx) (M : Mm) (hi : IC M) (c : Nat) (hc : 41 ≤ c ∧ c ≤ 52) (ta tb : Nat) (n : Int) (P : Nat → Int) (L : Int) (F Z m z : Nat → Int) (tv : TV M 54 ta tb n P L F Z) (pap : PAP n P L F Z m z) (hdn : 0 ≤ M 53 3 ∧ M 53 3 ≤ 1000) (K W : Nat → Int) (i : Nat) (lv : Int) (cl : CLC K W i lv M c) : Con X 4 yX3_isSo cX3_isSo 3 (some .boolean) [vr X 53, vr X 37, vr X c] M (Qi (fun r M1 => IC M1 ∧ Fr (fun c => c = 53 ∨ c = 59) M M1 ∧ M1 53 3 = M 53 3 ∧ M1 53 4 = M 53 4 ∧ ((r = 1 ∧ cOK K W i lv (evE n (M 53 3) m z)) ∨ (r = 0 ∧ ¬ cOK K W i lv (evE n (M 53 3) m z))))) := by
  refine Con.ofG rfl (Nat.le_of_ble_eq_true rfl) ?_
  show G X 4 RX3 cX3_isSo 3 (some .boolean) (Qi (fun r M1 => IC M1 ∧ Fr (fun c => c = 53 ∨ c = 59) M M1 ∧ M1 53 3 = M 53 3 ∧ M1 53 4 = M 53 4 ∧ ((r = 1 ∧ cOK K W i lv (evE n (M 53 3) m z)) ∨ (r = 0 ∧ ¬ cOK K W i lv (evE n (M 53 3) m z))))) 0 [(0, vr X 53), (1, vr X 37), (2, vr X c)] [] M
  refine g_aload_n (pc' := 1) 2 dX3_isSo_0 rfl rfl ?_
  refine g_getI (pc' := 4) dX3_isSo_1 rfl f_X3_61 (clS hc) rfl (fun v1 ev1 rv1 => ?_)
  have kv1 : v1 = M c 7 := ev1
  refine g_aload_n (pc' := 5) 2 dX3_isSo_4 rfl rfl ?_
  refine g_getI (pc' := 8) dX3_isSo_5 rfl f_X3_64 (clS hc) rfl (fun v2 ev2 rv2 => ?_)
  have bv2 : 0 ≤ v2 := by rw [ev2]; exact (hi.2.2.2.1.2.2 c (by omega) (by omega)).2
  have kv2 : v2 = M c 6 := ev2
  refine g_ic_gt (pc' := 11) (tgt := 13) rv1 rv2 dX3_isSo_8 rfl rfl (fun c3 => ?_) (fun c3 => ?_)
  · have hif : cIf K W i lv := Classical.byContradiction (fun z => by have := cl.2.2.2.2.2.2.2.2 z; omega)
    obtain ⟨l0, hl0, mc0⟩ := cl.2.2.2.2.2.2.2.1 hif
    have cb := cl.2.2.2.2.2.1
    refine g_aload_n (pc' := 14) 0 dX3_isSo_13 rfl rfl ?_
    refine g_aload_n (pc' := 15) 1 dX3_isSo_14 rfl rfl ?_
    refine g_aload_n (pc' := 16) 2 dX3_isSo_15 rfl rfl ?_
    refine g_getI (pc' := 19) dX3_isSo_16 rfl f_X3_64 (clS hc) rfl (fun v4 ev4 rv4 => ?_)
    obtain rfl : v2 = v4 := ev2.trans ev4.symm
    refine g_aload_n (pc' := 20) 2 dX3_isSo_19 rfl rfl ?_
    refine g_getI (pc' := 23) dX3_isSo_20 rfl f_X3_61 (clS hc) rfl (fun v5 ev5 rv5 => ?_)
    obtain rfl : v1 = v5 := ev1.trans ev5.symm
    refine g_callVi (pc' := 26) (As := [vr X 37, vi v2, vi v1]) (b := 53) (S := []) dX3_isSo_23 rfl m_X3_67 w_X3_works (c_X3_works_y X M hi v2 rv2 v1 rv1 ta tb n P L F Z m z tv pap (by have q : M 53 3 = M 53 3 := rfl; omega) (by omega) l0 (cT K W i lv) (by rw [show v2 = M c 6 by omega, show v1 = M c 7 by omega]; exact mc0) hl0) rfl ⟨_, _, _, rfl, rfl, rfl⟩ (by decide) (by decide) rfl (Nat.le_of_ble_eq_true rfl) (fun z7 M8 q6 => ?_)
    obtain ⟨iM8, fM80, eM8_53_3, eM8_53_4, pM8⟩ := q6
    have fM8 : Fr (fun c => c = 53 ∨ c = 59) M M8 := Fr.tr Fr.rf fM80 (fun _ z => z)
    have q53_3_M8 : id (M8 53 3 = M 53 3) := eM8_53_3
    have q53_4_M8 : id (M8 53 4 = M 53 4) := eM8_53_4
    clear eM8_53_3 eM8_53_4
    have rbM8 := pM8.b
    refine g_if_eq (pc' := 29) (tgt := 44) ⟨by omega, by omega⟩ dX3_isSo_26 rfl rfl (fun c9 => ?_) (fun c9 => ?_)
    · refine g_iconst (pc' := 45) dX3_isSo_44 rfl ?_
      refine g_zreturn dX3_isSo_45 (by omega) ?_
      exact ⟨iM8, fM8, q53_3_M8, q53_4_M8, Or.inr ⟨rfl, fun q => SOX.nn pM8 (by omega) (q hif)⟩⟩
    · have wr1_ : z7 = 1 := by
        cases q0 : cT K W i lv (evE n (M 53 3) m z) with
        | none => have := pM8.2 q0; omega
        | some v => exact (pM8.1 v q0).1
      refine g_aload_n (pc' := 30) 0 dX3_isSo_29 rfl rfl ?_
      refine g_getR (pc' := 33) dX3_isSo_30 rfl f_X3_18 rfl rfl ?_
      refine g_iconst (pc' := 34) dX3_isSo_33 rfl ?_
      refine g_lald (pc' := 35) dX3_isSo_34 rfl rfl (by decide) (by decide) (fun v10 ev10 rv10 => ?_)
      have ev10 : v10 = M8 59 0 := ev10
      refine g_lconst (pc' := 36) (v := 0) dX3_isSo_35 rfl (by decide) ?_
      refine g_lc_eq (pc' := 40) (tgt := 44) rv10 (by decide) dX3_isSo_36 dX3_isSo_37 rfl rfl (fun c11 => ?_) (fun c11 => ?_)
      · refine g_iconst (pc' := 45) dX3_isSo_44 rfl ?_
        refine g_zreturn dX3_isSo_45 (by omega) ?_
        exact ⟨iM8, fM8, q53_3_M8, q53_4_M8, Or.inr ⟨rfl, fun q => SOX.nn pM8 (by omega) (q hif)⟩⟩
      · refine g_iconst (pc' := 41) dX3_isSo_40 rfl ?_
        refine g_goto (tgt := 45) dX3_isSo_41 rfl ?_
        refine g_zreturn dX3_isSo_45 (by omega) ?_
        exact ⟨iM8, fM8, q53_3_M8, q53_4_M8, Or.inl ⟨rfl, fun _ => SOX.y pM8 wr1_ (by omega)⟩⟩
  · refine g_iconst (pc' := 12) dX3_isSo_11 rfl ?_
    refine g_zreturn dX3_isSo_12 (by omega) ?_
    exact ⟨hi, Fr.rf, rfl, rfl, Or.inl ⟨rfl, fun y => by
        obtain ⟨l0, hl0, mc0⟩ := cl.2.2.2.2.2.2.2.1 y
        have := mc0.1
        omega⟩⟩
set_option maxHeartbeats 4000000 in
set_option maxRecDepth 100000 in
theorem c_X3_move_y (X : Cx) (M : Mm) (hi : IC M) (c : Nat) (hc : 41 ≤ c ∧ c ≤ 52) (ta tb : Nat) (n : Int) (P : Nat → Int) (L : Int) (F Z m z : Nat → Int) (tv : TV M 54 ta tb n P L F Z) (pap : PAP n P L F Z m z) (hdn : 0 ≤ M 53 3 ∧ M 53 3 ≤ 1000) (K W : Nat → Int) (i : Nat) (lv : Int) (cl : CLC K W i lv M c) (hz6 : ∀ j : Nat, j < 6 → z j ≤ 60) : Con X 4 yX3_move cX3_move 4 (some .int) [vr X 53, vr X 37, vr X c] M (Qi (fun r M1 => IC M1 ∧ Fr (fun c => 53 ≤ c ∧ c ≤ 59) M M1 ∧ M1 53 3 = M 53 3 ∧ M1 53 4 = M 53 4 ∧ M1 54 5 = M 54 5 ∧ ((r = 0 ∨ r = -3 ∨ r = -5) ∧ r = (mvR n z K W i lv m (M 53 3)).1 ∧ PQ_ M1 54 n (mvR n z K W i lv m (M 53 3)).2 z))) := by
  refine Con.ofG rfl (Nat.le_of_ble_eq_true rfl) ?_
  show G X 4 RX3 cX3_move 4 (some .int) (Qi (fun r M1 => IC M1 ∧ Fr (fun c => 53 ≤ c ∧ c ≤ 59) M M1 ∧ M1 53 3 = M 53 3 ∧ M1 53 4 = M 53 4 ∧ M1 54 5 = M 54 5 ∧ ((r = 0 ∨ r = -3 ∨ r = -5) ∧ r = (mvR n z K W i lv m (M 53 3)).1 ∧ PQ_ M1 54 n (mvR n z K W i lv m (M 53 3)).2 z))) 0 [(0, vr X 53), (1, vr X 37), (2, vr X c)] [] M
  obtain ⟨l0, hl0, mc0⟩ := cl.2.2.2.2.2.2.1
  have cb := cl.2.2.2.2.2.1
  have ch := cHd_v (K := K) (W := W) (i := i)
  have cl0 := cl.1
  refine g_aload_n (pc' := 1) 0 dX3_move_0 rfl rfl ?_
  refine g_aload_n (pc' := 2) 1 dX3_move_1 rfl rfl ?_
  refine g_aload_n (pc' := 3) 2 dX3_move_2 rfl rfl ?_
  refine g_getI (pc' := 6) dX3_move_3 rfl f_X3_71 (clS hc) rfl (fun v1 ev1 rv1 => ?_)
  have bv1 : 0 ≤ v1 := by rw [ev1]; exact (hi.2.2.2.1.2.2 c (by omega) (by omega)).1
  have kv1 : v1 = M c 5 := ev1
  refine g_aload_n (pc' := 7) 2 dX3_move_6 rfl rfl ?_
  refine g_getI (pc' := 10) dX3_move_7 rfl f_X3_64 (clS hc) rfl (fun v2 ev2 rv2 => ?_)
  have bv2 : 0 ≤ v2 := by rw [ev2]; exact (hi.2.2.2.1.2.2 c (by omega) (by omega)).2
  have kv2 : v2 = M c 6 := ev2
  refine g_callVi (pc' := 13) (As := [vr X 37, vi v1, vi v2]) (b := 53) (S := []) dX3_move_10 rfl m_X3_67 w_X3_works (c_X3_works_y X M hi v1 rv1 v2 rv2 ta tb n P L F Z m z tv pap (by have q : M 53 3 = M 53 3 := rfl; omega) (by omega) l0 (cF K W i lv) (by rw [show v1 = M c 5 by omega, show v2 = M c 6 by omega]; exact mc0) hl0) rfl ⟨_, _, _, rfl, rfl, rfl⟩ (by decide) (by decide) rfl (Nat.le_of_ble_eq_true rfl) (fun z4 M5 q3 => ?_)
  obtain ⟨iM5, fM50, eM5_53_3, eM5_53_4, pM5⟩ := q3
  have fM5 : Fr (fun c => 53 ≤ c ∧ c ≤ 59) M M5 := Fr.tr Fr.rf fM50 fi_4
  have q53_3_M5 : id (M5 53 3 = M 53 3) := eM5_53_3
  have q53_4_M5 : id (M5 53 4 = M 53 4) := eM5_53_4
  have q54_5_M5 : id (M5 54 5 = M 54 5) := (congrFun (fM50 54 (by first | decide | omega | (dsimp only; omega))) 5)
  clear eM5_53_3 eM5_53_4
  have rbM5 := pM5.b
  refine g_if_eq (pc' := 16) (tgt := 40) ⟨by omega, by omega⟩ dX3_move_13 rfl rfl (fun c6 => ?_) (fun c6 => ?_)
  · refine g_bipush (pc' := 42) (v := (-3)) dX3_move_40 rfl (by decide) ?_
    refine g_ireturn dX3_move_42 ?_
    have en := MVX.no pM5 (by omega)
    refine ⟨iM5, fM5, q53_3_M5, q53_4_M5, q54_5_M5, by omega, ?_⟩
    rw [en]
    exact ⟨rfl, ta, tb, P, L, F, Z, TV.far tv fM50 (fun c z => by unfold inT; first | omega | (dsimp only at z; omega)), pap⟩
  · refine g_aload_n (pc' := 17) 0 dX3_move_16 rfl rfl ?_
    refine g_getR (pc' := 20) dX3_move_17 rfl f_X3_18 rfl rfl ?_
    refine g_iconst (pc' := 21) dX3_move_20 rfl ?_
    refine g_lald (pc' := 22) dX3_move_21 rfl rfl (by decide) (by decide) (fun v7 ev7 rv7 => ?_)
    have ev7 : v7 = M5 59 0 := ev7
    refine g_lconst (pc' := 23) (v := 1) dX3_move_22 rfl (by decide) ?_
    refine g_lc_lt (pc' := 27) (tgt := 40) rv7 (by decide) dX3_move_23 dX3_move_24 rfl rfl (fun c8 => ?_) (fun c8 => ?_)
    · refine g_bipush (pc' := 42) (v := (-3)) dX3_move_40 rfl (by decide) ?_
      refine g_ireturn dX3_move_42 ?_
      have en := MVX.no pM5 (by omega)
      refine ⟨iM5, fM5, q53_3_M5, q53_4_M5, q54_5_M5, by omega, ?_⟩
      rw [en]
      exact ⟨rfl, ta, tb, P, L, F, Z, TV.far tv fM50 (fun c z => by unfold inT; first | omega | (dsimp only at z; omega)), pap⟩
    · refine g_aload_n (pc' := 28) 0 dX3_move_27 rfl rfl ?_
      refine g_getR (pc' := 31) dX3_move_28 rfl f_X3_18 rfl rfl ?_
      refine g_iconst (pc' := 32) dX3_move_31 rfl ?_
      refine g_lald (pc' := 33) dX3_move_32 rfl rfl (by decide) (by decide) (fun v9 ev9 rv9 => ?_)
      have ev9 : v9 = M5 59 0 := ev9
      obtain rfl : v7 = v9 := ev7.trans ev9.symm
      refine g_ldc2 (pc' := 36) (v := 60) dX3_move_33 rfl k_X3_74 ?_
      refine g_lc_le (pc' := 40) (tgt := 43) rv7 (by decide) dX3_move_36 dX3_move_37 rfl rfl (fun c10 => ?_) (fun c10 => ?_)
      · have wr1_ : z4 = 1 := by
          cases q0 : cF K W i lv (evE n (M 53 3) m z) with
          | none => have := pM5.2 q0; omega
          | some v => exact (pM5.1 v q0).1
        have ey := MVX.yes pM5 wr1_
        have c1 := cl.2.1
        have c2 := cl.2.2.1
        have c3 := cl.2.2.2.1
        refine g_aload_n (pc' := 44) 0 dX3_move_43 rfl rfl ?_
        refine g_getR (pc' := 47) dX3_move_44 rfl f_X3_18 rfl rfl ?_
        refine g_iconst (pc' := 48) dX3_move_47 rfl ?_
        refine g_lald (pc' := 49) dX3_move_48 rfl rfl (by decide) (by decide) (fun v11 ev11 rv11 => ?_)
        have ev11 : v11 = M5 59 0 := ev11
        obtain rfl : v7 = v11 := ev7.trans ev11.symm
        refine g_l2i (pc' := 50) dX3_move_49 rfl ?_
        refine g_istore_n (pc' := 51) (i := 3) (L' := [(3, vi v7), (0, vr X 53), (1, vr X 37), (2, vr X c)]) dX3_move_50 rfl rfl (by decide) rfl ?_
        refine g_aload_n (pc' := 52) 3 dX3_move_51 rfl rfl ?_
        refine g_getI (pc' := 55) dX3_move_52 rfl f_X3_76 (clS hc) rfl (fun v12 ev12 rv12 => ?_)
        have kv12 : v12 = M c 0 := by rw [ev12, fM5 c (by first | omega | (dsimp only; omega))]
        by_cases c13 : v12 = 0
        · refine g_look (tgt := 80) (off := 25) rv12 dX3_move_55 rfl (by rw [c13]; rfl) rfl ?_
          have d2 := c2 (by omega)
          have d3 := c3 (by omega)
          refine g_aload_n (pc' := 81) 1 dX3_move_80 rfl rfl ?_
          refine g_getR (pc' := 84) dX3_move_81 rfl f_X3_12 rfl rfl ?_
          refine g_aload_n (pc' := 85) 3 dX3_move_84 rfl rfl ?_
          refine g_getI (pc' := 88) dX3_move_85 rfl f_X3_79 (clS hc) rfl (fun v14 ev14 rv14 => ?_)
          have kv14 : v14 = M c 2 := by rw [ev14, fM5 c (by first | omega | (dsimp only; omega))]
          refine g_aload_n (pc' := 89) 3 dX3_move_88 rfl rfl ?_
          refine g_getI (pc' := 92) dX3_move_89 rfl f_X3_82 (clS hc) rfl (fun v15 ev15 rv15 => ?_)
          have kv15 : v15 = M c 3 := by rw [ev15, fM5 c (by first | omega | (dsimp only; omega))]
          refine g_iload_n (pc' := 93) 0 dX3_move_92 rfl rfl ?_
          refine g_callVi (pc' := 96) (As := [vi v14, vi v15, vi v7]) (b := 54) (S := []) dX3_move_93 rfl m_X3_85 w_X7_carry (c_X7_carry_x X M5 54 isT_54 (iM5.1 _ isT_54) v14 rv14 v15 rv15 v7 ⟨by omega, by omega⟩ ta tb n P L F Z (TV.far tv fM50 (fun c z => by unfold inT; first | omega | (dsimp only at z; omega))) pap.ct) rfl ⟨_, _, _, rfl, rfl, rfl⟩ (by decide) (by decide) rfl (Nat.le_of_ble_eq_true rfl) (fun z17 M18 q16 => ?_)
          obtain ⟨kM18, fM180, gM180, pM18⟩ := q16
          have iM18 : IC M18 := IC.ofT iM5 isT_54 fM180 kM18
          have fM18 : Fr (fun c => 53 ≤ c ∧ c ≤ 59) M M18 := Fr.tr fM5 fM180 (fun c z => by unfold inT at z; first | omega | (dsimp only; omega))
          have q53_3_M18 : id (M18 53 3 = M 53 3) := (congrFun (fM180 53 (by unfold inT; first | decide | omega)) 3).trans q53_3_M5
          have q53_4_M18 : id (M18 53 4 = M 53 4) := (congrFun (fM180 53 (by unfold inT; first | decide | omega)) 4).trans q53_4_M5
          have q54_5_M18 : id (M18 54 5 = M 54 5) := gM180.trans q54_5_M5
          obtain ⟨aM18, bM18, PM18, LM18, FM18, tvM18, crM18⟩ := pM18
          have rrM18 := crM18.r
          have mvM18 := MVX.sp (K := K) (W := W) (i := i) (lv := lv) pap hz6 (by omega) (by omega) (by omega) (by omega) crM18
          refine g_ireturn dX3_move_96 ?_
          refine ⟨iM18, fM18, q53_3_M18, q53_4_M18, q54_5_M18, by omega, ?_⟩
          rw [ey, show M5 59 0 = v7 by omega]
          exact ⟨mvM18.1, aM18, bM18, PM18, LM18, FM18, Z, tvM18, mvM18.2⟩
        by_cases c19 : v12 = 1
        · refine g_look (tgt := 97) (off := 42) rv12 dX3_move_55 rfl (by rw [c19]; rfl) rfl ?_
          have d2 := c2 (by omega)
          refine g_aload_n (pc' := 98) 1 dX3_move_97 rfl rfl ?_
          refine g_getR (pc' := 101) dX3_move_98 rfl f_X3_12 rfl rfl ?_
          refine g_aload_n (pc' := 102) 3 dX3_move_101 rfl rfl ?_
          refine g_getI (pc' := 105) dX3_move_102 rfl f_X3_79 (clS hc) rfl (fun v20 ev20 rv20 => ?_)
          have kv20 : v20 = M c 2 := by rw [ev20, fM5 c (by first | omega | (dsimp only; omega))]
          refine g_iload_n (pc' := 106) 0 dX3_move_105 rfl rfl ?_
          refine g_callVi (pc' := 109) (As := [vi v20, vi v7]) (b := 54) (S := []) dX3_move_106 rfl m_X3_89 w_X7_takeOut (c_X7_takeOut_x X M5 54 isT_54 (iM5.1 _ isT_54) v20 rv20 v7 ⟨by omega, by omega⟩ ta tb n P L F Z (TV.far tv fM50 (fun c z => by unfold inT; first | omega | (dsimp only at z; omega))) pap.ct) rfl ⟨_, _, _, rfl, rfl, rfl⟩ (by decide) (by decide) rfl (Nat.le_of_ble_eq_true rfl) (fun z22 M23 q21 => ?_)
          obtain ⟨kM23, fM230, gM230, pM23⟩ := q21
          have iM23 : IC M23 := IC.ofT iM5 isT_54 fM230 kM23
          have fM23 : Fr (fun c => 53 ≤ c ∧ c ≤ 59) M M23 := Fr.tr fM5 fM230 (fun c z => by unfold inT at z; first | omega | (dsimp only; omega))
          have q53_3_M23 : id (M23 53 3 = M 53 3) := (congrFun (fM230 53 (by unfold inT; first | decide | omega)) 3).trans q53_3_M5
          have q53_4_M23 : id (M23 53 4 = M 53 4) := (congrFun (fM230 53 (by unfold inT; first | decide | omega)) 4).trans q53_4_M5
          have q54_5_M23 : id (M23 54 5 = M 54 5) := gM230.trans q54_5_M5
          obtain ⟨aM23, bM23, PM23, LM23, FM23, tvM23, crM23⟩ := pM23
          have rrM23 := crM23.r
          have mvM23 := MVX.lk (K := K) (W := W) (i := i) (lv := lv) pap hz6 (by omega) (by omega) (by omega) crM23
          refine g_ireturn dX3_move_109 ?_
          refine ⟨iM23, fM23, q53_3_M23, q53_4_M23, q54_5_M23, by omega, ?_⟩
          rw [ey, show M5 59 0 = v7 by omega]
          exact ⟨mvM23.1, aM23, bM23, PM23, LM23, FM23, Z, tvM23, mvM23.2⟩
        refine g_look (tgt := 110) (off := 55) rv12 dX3_move_55 rfl (by simp [Op.lookupswitch.offset, Ne.symm c13, Ne.symm c19]) rfl ?_
        have d1 := c1 (by omega)
        have d3 := c3 (by omega)
        refine g_aload_n (pc' := 111) 1 dX3_move_110 rfl rfl ?_
        refine g_getR (pc' := 114) dX3_move_111 rfl f_X3_12 rfl rfl ?_
        refine g_aload_n (pc' := 115) 3 dX3_move_114 rfl rfl ?_
        refine g_getI (pc' := 118) dX3_move_115 rfl f_X3_82 (clS hc) rfl (fun v24 ev24 rv24 => ?_)
        have kv24 : v24 = M c 3 := by rw [ev24, fM5 c (by first | omega | (dsimp only; omega))]
        refine g_aload_n (pc' := 119) 3 dX3_move_118 rfl rfl ?_
        refine g_getI (pc' := 122) dX3_move_119 rfl f_X3_93 (clS hc) rfl (fun v25 ev25 rv25 => ?_)
        have kv25 : v25 = M c 1 := by rw [ev25, fM5 c (by first | omega | (dsimp only; omega))]
        refine g_iload_n (pc' := 123) 0 dX3_move_122 rfl rfl ?_
        refine g_callVi (pc' := 126) (As := [vi v24, vi v25, vi v7]) (b := 54) (S := []) dX3_move_123 rfl m_X3_96 w_X7_pour (c_X7_pour_x X M5 54 isT_54 (iM5.1 _ isT_54) v24 rv24 v25 rv25 v7 ⟨by omega, by omega⟩ ta tb n P L F Z (TV.far tv fM50 (fun c z => by unfold inT; first | omega | (dsimp only at z; omega))) pap.ct) rfl ⟨_, _, _, rfl, rfl, rfl⟩ (by decide) (by decide) rfl (Nat.le_of_ble_eq_true rfl) (fun z27 M28 q26 => ?_)
        obtain ⟨kM28, fM280, gM280, pM28⟩ := q26
        have iM28 : IC M28 := IC.ofT iM5 isT_54 fM280 kM28
        have fM28 : Fr (fun c => 53 ≤ c ∧ c ≤ 59) M M28 := Fr.tr fM5 fM280 (fun c z => by unfold inT at z; first | omega | (dsimp only; omega))
        have q53_3_M28 : id (M28 53 3 = M 53 3) := (congrFun (fM280 53 (by unfold inT; first | decide | omega)) 3).trans q53_3_M5
        have q53_4_M28 : id (M28 53 4 = M 53 4) := (congrFun (fM280 53 (by unfold inT; first | decide | omega)) 4).trans q53_4_M5
        have q54_5_M28 : id (M28 54 5 = M 54 5) := gM280.trans q54_5_M5
        obtain ⟨PM28, FM28, tvM28, poM28⟩ := pM28
        have rrM28 := poM28.r
        have mvM28 := MVX.fi (K := K) (W := W) (i := i) (lv := lv) pap (by omega) (by omega) (by omega) (by omega) (by omega) poM28
        refine g_ireturn dX3_move_126 ?_
        refine ⟨iM28, fM28, q53_3_M28, q53_4_M28, q54_5_M28, by omega, ?_⟩
        rw [ey, show M5 59 0 = v7 by omega]
        exact ⟨mvM28.1, ta, tb, PM28, L, FM28, Z, tvM28, mvM28.2⟩
      · refine g_bipush (pc' := 42) (v := (-3)) dX3_move_40 rfl (by decide) ?_
        refine g_ireturn dX3_move_42 ?_
        have en := MVX.no pM5 (by omega)
        refine ⟨iM5, fM5, q53_3_M5, q53_4_M5, q54_5_M5, by omega, ?_⟩
        rw [en]
        exact ⟨rfl, ta, tb, P, L, F, Z, TV.far tv fM50 (fun c z => by unfold inT; first | omega | (dsimp only at z; omega)), pap⟩
set_option maxHeartbeats 4000000 in
set_option maxRecDepth 100000 in
theorem l_X3_runClause_y_2 (X : Cx) (M : Mm) (hi : IC M) (c : Nat) (hc : 41 ≤ c ∧ c ≤ 52) (ta tb : Nat) (n : Int) (P : Nat → Int) (L : Int) (F Z m z : Nat → Int) (tv : TV M 54 ta tb n P L F Z) (pap : PAP n P L F Z m z) (hdn : 0 ≤ M 53 3 ∧ M 53 3 ≤ 900) (K W : Nat → Int) (i : Nat) (lv : Int) (cl : CLC K W i lv M c) (hz6 : ∀ j : Nat, j < 6 → z j ≤ 60) : ∀ (kk : Nat) (t : Int) (M1 : Mm) (ic1 : IC M1) (fr1 : Fr (fun c => 53 ≤ c ∧ c ≤ 59) M M1) (q53_4 : id (M1 53 4 = M 53 4)) (q54_5 : id (M1 54 5 = M 54 5)) (h0 : 0 ≤ t ∧ t ≤ M c 4) (a1 : Nat) (b1 : Nat) (P1 : Nat → Int) (L1 : Int) (F1 : Nat → Int) (Z1 : Nat → Int) (mm : Nat → Int) (tv1 : TV M1 54 a1 b1 n P1 L1 F1 Z1) (pap1 : PAP n P1 L1 F1 Z1 mm z) (hd1 : M 53 3 ≤ M1 53 3 ∧ M1 53 3 ≤ M 53 3 + t) (es : evI n z K W i lv (0, m, M 53 3) t.toNat = (0, mm, M1 53 3)), (20 - t).toNat = kk → G X 5 RX3 cX3_runClause 5 (some .int) (Qi (fun r M1 => IC M1 ∧ Fr (fun c => 53 ≤ c ∧ c ≤ 59) M M1 ∧ M1 53 4 = M 53 4 ∧ M1 54 5 = M 54 5 ∧ ((r = 0 ∨ r = -3 ∨ r = -5) ∧ (r < 0 → (evI n z K W i lv (0, m, M 53 3) (cTm K W i lv).toNat).1 = r) ∧ (r = 0 → (evI n z K W i lv (0, m, M 53 3) (cTm K W i lv).toNat).1 = 0 ∧ PQ_ M1 54 n (evI n z K W i lv (0, m, M 53 3) (cTm K W i lv).toNat).2.1 z ∧ M1 53 3 = (evI n z K W i lv (0, m, M 53 3) (cTm K W i lv).toNat).2.2 ∧ (M 53 3 ≤ M1 53 3 ∧ M1 53 3 ≤ M 53 3 + 20))))) 2 [(3, vi t), (0, vr X 53), (1, vr X 37), (2, vr X c)] [] M1 := by
  intro kk
  induction kk using Nat.strongRecOn with
  | ind kk ih =>
    intro t M1 ic1 fr1 q53_4 q54_5 h0 a1 b1 P1 L1 F1 Z1 mm tv1 pap1 hd1 es hmes
    have cl4 := cl.2.2.2.2.1
    refine g_iload_n (pc' := 3) 0 dX3_runClause_2 rfl rfl ?_
    refine g_aload_n (pc' := 4) 3 dX3_runClause_3 rfl rfl ?_
    refine g_getI (pc' := 7) dX3_runClause_4 rfl f_X3_49 (clS hc) rfl (fun v1 ev1 rv1 => ?_)
    have kv1 : v1 = M c 4 := by rw [ev1, fr1 c (by first | omega | (dsimp only; omega))]
    refine g_ic_ge (pc' := 10) (tgt := 51) ⟨by omega, by omega⟩ rv1 dX3_runClause_7 rfl rfl (fun c2 => ?_) (fun c2 => ?_)
    · refine g_iconst (pc' := 52) dX3_runClause_51 rfl ?_
      refine g_ireturn dX3_runClause_52 ?_
      have et : (cTm K W i lv).toNat = t.toNat := by omega
      exact ⟨ic1, fr1, q53_4, q54_5, Or.inl rfl, fun q => absurd q (by decide), fun _ => by
          rw [et, es]
          exact ⟨rfl, ⟨a1, b1, P1, L1, F1, Z1, tv1, pap1⟩, rfl, by omega⟩⟩
    · refine g_aload_n (pc' := 11) 1 dX3_runClause_10 rfl rfl ?_
      refine g_aload_n (pc' := 12) 2 dX3_runClause_11 rfl rfl ?_
      refine g_aload_n (pc' := 13) 3 dX3_runClause_12 rfl rfl ?_
      refine g_callVi (pc' := 16) (As := [vr X 37, vr X c]) (b := 53) (S := []) dX3_runClause_13 rfl m_X3_54 w_X3_isSo (c_X3_isSo_y X M1 ic1 c hc a1 b1 n P1 L1 F1 Z1 mm z tv1 pap1 (by omega) K W i lv (cl.fr (fr1 39 (by decide)) (fr1 40 (by decide)) (congrFun (fr1 37 (by decide)) 4) (fr1 c (by first | omega | (dsimp only; omega))))) rfl ⟨_, _, _, rfl, rfl, rfl⟩ (by decide) (by decide) rfl (Nat.le_of_ble_eq_true rfl) (fun z4 M5 q3 => ?_)
      obtain ⟨iM5, fM50, eM5_53_3, eM5_53_4, pM5⟩ := q3
      have fM5 : Fr (fun c => 53 ≤ c ∧ c ≤ 59) M M5 := Fr.tr fr1 fM50 fi_4
      have q53_4_M5 : id (M5 53 4 = M 53 4) := eM5_53_4.trans q53_4
      have q54_5_M5 : id (M5 54 5 = M 54 5) := (congrFun (fM50 54 (by first | decide | omega | (dsimp only; omega))) 5).trans q54_5
      have wM5_53_3 : M5 53 3 = M1 53 3 := eM5_53_3
      clear eM5_53_4
      have tvM5 := TV.far tv1 fM50 (fun c z => by unfold inT; first | omega | (dsimp only at z; omega))
      have d3M5 : M5 53 3 = M1 53 3 := wM5_53_3
      refine g_if_eq (pc' := 19) (tgt := 45) ⟨by omega, by omega⟩ dX3_runClause_16 rfl rfl (fun c6 => ?_) (fun c6 => ?_)
      · have en0 : evS n z K W i lv mm (M1 53 3) = (0, mm, M5 53 3) := by
          rw [evS_no (pM5.resolve_left (fun q => by omega)).2, d3M5]
        refine g_iinc (pc' := 48) (L' := [(3, vi (t + 1)), (0, vr X 53), (1, vr X 37), (2, vr X c)]) 0 dX3_runClause_45 rfl rfl (by decide) rfl ?_
        refine g_goto (tgt := 2) dX3_runClause_48 rfl ?_
        refine g_sub [0, 1, 2, 3] rfl ?_
        exact ih _ (by omega) (t + 1) M5 iM5 fM5 q53_4_M5 q54_5_M5 (by omega) a1 b1 P1 L1 F1 Z1 mm tvM5 pap1 (by omega) (by rw [show (t + 1).toNat = t.toNat + 1 by omega, evI_s es]; exact en0) rfl
      · refine g_aload_n (pc' := 20) 1 dX3_runClause_19 rfl rfl ?_
        refine g_aload_n (pc' := 21) 2 dX3_runClause_20 rfl rfl ?_
        refine g_aload_n (pc' := 22) 3 dX3_runClause_21 rfl rfl ?_
        refine g_callVi (pc' := 25) (As := [vr X 37, vr X c]) (b := 53) (S := []) dX3_runClause_22 rfl m_X3_58 w_X3_move (c_X3_move_y X M5 iM5 c hc a1 b1 n P1 L1 F1 Z1 mm z tvM5 pap1 (by omega) K W i lv (cl.fr (fM5 39 (by decide)) (fM5 40 (by decide)) (congrFun (fM5 37 (by decide)) 4) (fM5 c (by first | omega | (dsimp only; omega)))) hz6) rfl ⟨_, _, _, rfl, rfl, rfl⟩ (by decide) (by decide) rfl (Nat.le_of_ble_eq_true rfl) (fun z8 M9 q7 => ?_)
        obtain ⟨iM9, fM90, eM9_53_3, eM9_53_4, eM9_54_5, pM9⟩ := q7
        have fM9 : Fr (fun c => 53 ≤ c ∧ c ≤ 59) M M9 := Fr.tr fM5 fM90 (fun _ z => z)
        have q53_4_M9 : id (M9 53 4 = M 53 4) := eM9_53_4.trans q53_4_M5
        have q54_5_M9 : id (M9 54 5 = M 54 5) := eM9_54_5.trans q54_5_M5
        have wM9_53_3 : M9 53 3 = M5 53 3 := eM9_53_3
        clear eM9_53_4 eM9_54_5
        obtain ⟨mrM9, mqM9, ma, mb, MP, ML, MF, MZ, mtv, mpap⟩ := pM9
        refine g_istore (pc' := 27) (L' := [(4, vi z8), (3, vi t), (0, vr X 53), (1, vr X 37), (2, vr X c)]) dX3_runClause_25 rfl (by decide) rfl ?_
        refine g_iload (pc' := 29) 0 dX3_runClause_27 rfl rfl ?_
        refine g_if_ge (pc' := 32) (tgt := 35) ⟨by omega, by omega⟩ dX3_runClause_29 rfl rfl (fun c10 => ?_) (fun c10 => ?_)
        · refine g_aload_n (pc' := 36) 2 dX3_runClause_35 rfl rfl ?_
          refine g_dup (pc' := 37) dX3_runClause_36 rfl rfl ?_
          refine g_getI (pc' := 40) dX3_runClause_37 rfl f_X3_26 rfl rfl (fun v11 ev11 rv11 => ?_)
          refine g_iconst (pc' := 41) dX3_runClause_40 rfl ?_
          refine g_iadd (pc' := 42) dX3_runClause_41 rfl ?_
          refine g_nrmI (fun n12 rn12 en12 => ?_)
          have bn12 : (-2147483648 ≤ v11 + 1 ∧ v11 + 1 ≤ 2147483647) → n12 = v11 + 1 := fun h => en12.trans (bm32 h)
          refine g_putI (pc' := 45) dX3_runClause_42 rfl p_X3_26 rfl rfl rn12 (fun M13 hM13 => ?_)
          have iM13 : IC M13 := IC.wr iM9 hM13 (by unfold okw isT; first | decide | omega)
          have fM13 : Fr (fun c => 53 ≤ c ∧ c ≤ 59) M M13 := Fr.wr fM9 hM13 (by first | decide | omega | (dsimp only; omega))
          have q53_4_M13 : id (M13 53 4 = M 53 4) := (show M13 53 4 = M9 53 4 by rw [hM13]; exact mu_ne _ _ (by first | decide | omega)).trans q53_4_M9
          have q54_5_M13 : id (M13 54 5 = M 54 5) := (show M13 54 5 = M9 54 5 by rw [hM13]; exact mu_ne _ _ (by first | decide | omega)).trans q54_5_M9
          have xM13_53_3 : M13 53 3 = n12 := by rw [hM13]; exact mu_at _ _ _ _
          have tvM13 := TV.far mtv (show Fr (fun c => c = 53) M9 M13 from fun q hq => by rw [hM13]; exact mu_cell _ _ hq) (fun c z => by unfold inT; first | omega | (dsimp only at z; omega))
          have en0 : evS n z K W i lv mm (M1 53 3) = (0, (mvR n z K W i lv mm (M5 53 3)).2, M13 53 3) := by
            rw [d3M5, evS_ok (pM5.resolve_right (fun q => by omega)).2 (by rw [← d3M5, ← mqM9]; omega), show M13 53 3 = M1 53 3 + 1 by omega]
          refine g_iinc (pc' := 48) (L' := [(3, vi (t + 1)), (4, vi z8), (0, vr X 53), (1, vr X 37), (2, vr X c)]) 1 dX3_runClause_45 rfl rfl (by decide) rfl ?_
          refine g_goto (tgt := 2) dX3_runClause_48 rfl ?_
          refine g_sub [0, 2, 3, 4] rfl ?_
          exact ih _ (by omega) (t + 1) M13 iM13 fM13 q53_4_M13 q54_5_M13 (by omega) ma mb MP ML MF MZ (mvR n z K W i lv mm (M5 53 3)).2 tvM13 mpap (by omega) (by rw [show (t + 1).toNat = t.toNat + 1 by omega, evI_s es]; exact en0) rfl
        · refine g_iload (pc' := 34) 0 dX3_runClause_32 rfl rfl ?_
          refine g_ireturn dX3_runClause_34 ?_
          have es1 : evI n z K W i lv (0, m, M 53 3) (t.toNat + 1) = (z8, mm, M1 53 3) := by
            rw [evI_s es, evS_bad (pM5.resolve_right (fun q => by omega)).2 (by rw [← d3M5, ← mqM9]; omega), ← d3M5, ← mqM9]
          have es2 := evI_e (n := n) (z := z) (K := K) (W := W) (i := i) (lv := lv) (s := (0, m, M 53 3)) (t := t.toNat + 1) (u := (cTm K W i lv).toNat) (by rw [es1]; show z8 < 0; omega) (by omega)
          rw [es1] at es2
          exact ⟨iM9, fM9, q53_4_M9, q54_5_M9, mrM9, fun _ => by rw [es2], fun q => absurd q (by omega)⟩
set_option maxHeartbeats 4000000 in
set_option maxRecDepth 100000 in
theorem c_X3_runClause_y (X : Cx) (M : Mm) (hi : IC M) (c : Nat) (hc : 41 ≤ c ∧ c ≤ 52) (ta tb : Nat) (n : Int) (P : Nat → Int) (L : Int) (F Z m z : Nat → Int) (tv : TV M 54 ta tb n P L F Z) (pap : PAP n P L F Z m z) (hdn : 0 ≤ M 53 3 ∧ M 53 3 ≤ 900) (K W : Nat → Int) (i : Nat) (lv : Int) (cl : CLC K W i lv M c) (hz6 : ∀ j : Nat, j < 6 → z j ≤ 60) : Con X 5 yX3_runClause cX3_runClause 5 (some .int) [vr X 53, vr X 37, vr X c] M (Qi (fun r M1 => IC M1 ∧ Fr (fun c => 53 ≤ c ∧ c ≤ 59) M M1 ∧ M1 53 4 = M 53 4 ∧ M1 54 5 = M 54 5 ∧ ((r = 0 ∨ r = -3 ∨ r = -5) ∧ (r < 0 → (evI n z K W i lv (0, m, M 53 3) (cTm K W i lv).toNat).1 = r) ∧ (r = 0 → (evI n z K W i lv (0, m, M 53 3) (cTm K W i lv).toNat).1 = 0 ∧ PQ_ M1 54 n (evI n z K W i lv (0, m, M 53 3) (cTm K W i lv).toNat).2.1 z ∧ M1 53 3 = (evI n z K W i lv (0, m, M 53 3) (cTm K W i lv).toNat).2.2 ∧ (M 53 3 ≤ M1 53 3 ∧ M1 53 3 ≤ M 53 3 + 20))))) := by
  refine Con.ofG rfl (Nat.le_of_ble_eq_true rfl) ?_
  show G X 5 RX3 cX3_runClause 5 (some .int) (Qi (fun r M1 => IC M1 ∧ Fr (fun c => 53 ≤ c ∧ c ≤ 59) M M1 ∧ M1 53 4 = M 53 4 ∧ M1 54 5 = M 54 5 ∧ ((r = 0 ∨ r = -3 ∨ r = -5) ∧ (r < 0 → (evI n z K W i lv (0, m, M 53 3) (cTm K W i lv).toNat).1 = r) ∧ (r = 0 → (evI n z K W i lv (0, m, M 53 3) (cTm K W i lv).toNat).1 = 0 ∧ PQ_ M1 54 n (evI n z K W i lv (0, m, M 53 3) (cTm K W i lv).toNat).2.1 z ∧ M1 53 3 = (evI n z K W i lv (0, m, M 53 3) (cTm K W i lv).toNat).2.2 ∧ (M 53 3 ≤ M1 53 3 ∧ M1 53 3 ≤ M 53 3 + 20))))) 0 [(0, vr X 53), (1, vr X 37), (2, vr X c)] [] M
  have cl4 := cl.2.2.2.2.1
  refine g_iconst (pc' := 1) dX3_runClause_0 rfl ?_
  refine g_istore_n (pc' := 2) (i := 3) (L' := [(3, vi 0), (0, vr X 53), (1, vr X 37), (2, vr X c)]) dX3_runClause_1 rfl rfl (by decide) rfl ?_
  refine g_sub [0, 1, 2, 3] rfl ?_
  exact l_X3_runClause_y_2 X M hi c hc ta tb n P L F Z m z tv pap hdn K W i lv cl hz6 _ 0 M hi Fr.rf rfl rfl (by omega) ta tb P L F Z m tv pap (by omega) rfl rfl
