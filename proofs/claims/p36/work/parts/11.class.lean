set_option maxHeartbeats 4000000 in
set_option maxRecDepth 100000 in
theorem c_X4_write (X : Cx) (M : Mm) (hi : IC M) (a : Int) (ha : inI a) (b : Int) (hb : inI b) : Con X 0 yX4_write cX4_write 3 (some .int) [vr X 37, vi a, vi b] M (Qi (fun r M1 => IC M1 ∧ Fr (fun c => 37 ≤ c ∧ c ≤ 40) M M1 ∧ (-1 ≤ r ∧ r ≤ 399))) := by
  refine Con.ofG rfl (Nat.le_of_ble_eq_true rfl) ?_
  show G X 0 RX4 cX4_write 3 (some .int) (Qi (fun r M1 => IC M1 ∧ Fr (fun c => 37 ≤ c ∧ c ≤ 40) M M1 ∧ (-1 ≤ r ∧ r ≤ 399))) 0 [(0, vr X 37), (1, vi a), (2, vi b)] [] M
  refine g_aload_n (pc' := 1) 0 dX4_write_0 rfl rfl ?_
  refine g_getI (pc' := 4) dX4_write_1 rfl f_X4_25 rfl rfl (fun v1 ev1 rv1 => ?_)
  have bv1 : 0 ≤ v1 ∧ v1 ≤ 400 := by rw [ev1]; exact hi.2.2.2.1.1
  have av1 : v1 = M 37 4 := ev1
  refine g_sipush (pc' := 7) (v := 400) dX4_write_4 rfl (by decide) ?_
  refine g_ic_lt (pc' := 10) (tgt := 12) rv1 (by decide) dX4_write_7 rfl rfl (fun c2 => ?_) (fun c2 => ?_)
  · refine g_aload_n (pc' := 13) 0 dX4_write_12 rfl rfl ?_
    refine g_getR (pc' := 16) dX4_write_13 rfl f_X4_17 rfl rfl ?_
    refine g_aload_n (pc' := 17) 0 dX4_write_16 rfl rfl ?_
    refine g_getI (pc' := 20) dX4_write_17 rfl f_X4_25 rfl rfl (fun v3 ev3 rv3 => ?_)
    obtain rfl : v1 = v3 := ev1.trans ev3.symm
    refine g_iload_n (pc' := 21) 1 dX4_write_20 rfl rfl ?_
    refine g_iast (pc' := 22) dX4_write_21 rfl rfl (by omega) (by omega) ha (fun M4 hM4 => ?_)
    have iM4 : IC M4 := IC.wr hi hM4 (by unfold okw isT; first | decide | omega)
    have fM4 : Fr (fun c => 37 ≤ c ∧ c ≤ 40) M M4 := Fr.wr Fr.rf hM4 (by first | decide | omega | (dsimp only; omega))
    have q37_4_M4 : (M4 37 4 = M 37 4) := (show M4 37 4 = M 37 4 by rw [hM4]; exact mu_ne _ _ (by first | decide | omega))
    refine g_aload_n (pc' := 23) 0 dX4_write_22 rfl rfl ?_
    refine g_getR (pc' := 26) dX4_write_23 rfl f_X4_21 rfl rfl ?_
    refine g_aload_n (pc' := 27) 0 dX4_write_26 rfl rfl ?_
    refine g_getI (pc' := 30) dX4_write_27 rfl f_X4_25 rfl rfl (fun v5 ev5 rv5 => ?_)
    have bv5 : 0 ≤ v5 ∧ v5 ≤ 400 := by rw [ev5]; exact iM4.2.2.2.1.1
    have av5 : v5 = M 37 4 := ev5.trans q37_4_M4
    obtain rfl : v1 = v5 := av1.trans av5.symm
    refine g_iload_n (pc' := 31) 2 dX4_write_30 rfl rfl ?_
    refine g_iast (pc' := 32) dX4_write_31 rfl rfl (by omega) (by omega) hb (fun M6 hM6 => ?_)
    have iM6 : IC M6 := IC.wr iM4 hM6 (by unfold okw isT; first | decide | omega)
    have fM6 : Fr (fun c => 37 ≤ c ∧ c ≤ 40) M M6 := Fr.wr fM4 hM6 (by first | decide | omega | (dsimp only; omega))
    have q37_4_M6 : (M6 37 4 = M 37 4) := (show M6 37 4 = M4 37 4 by rw [hM6]; exact mu_ne _ _ (by first | decide | omega)).trans q37_4_M4
    refine g_aload_n (pc' := 33) 0 dX4_write_32 rfl rfl ?_
    refine g_dup (pc' := 34) dX4_write_33 rfl rfl ?_
    refine g_getI (pc' := 37) dX4_write_34 rfl f_X4_25 rfl rfl (fun v7 ev7 rv7 => ?_)
    have bv7 : 0 ≤ v7 ∧ v7 ≤ 400 := by rw [ev7]; exact iM6.2.2.2.1.1
    have av7 : v7 = M 37 4 := ev7.trans q37_4_M6
    obtain rfl : v1 = v7 := av1.trans av7.symm
    refine g_iconst (pc' := 38) dX4_write_37 rfl ?_
    refine g_iadd (pc' := 39) dX4_write_38 rfl ?_
    refine g_putI (pc' := 42) dX4_write_39 rfl p_X4_25 rfl rfl ⟨by omega, by omega⟩ (fun M8 hM8 => ?_)
    have iM8 : IC M8 := IC.wr iM6 hM8 (by unfold okw isT; first | decide | omega)
    have fM8 : Fr (fun c => 37 ≤ c ∧ c ≤ 40) M M8 := Fr.wr fM6 hM8 (by first | decide | omega | (dsimp only; omega))
    have xM8_37_4 : M8 37 4 = v1 + 1 := by rw [hM8]; exact mu_at _ _ _ _
    refine g_aload_n (pc' := 43) 0 dX4_write_42 rfl rfl ?_
    refine g_getI (pc' := 46) dX4_write_43 rfl f_X4_25 rfl rfl (fun v9 ev9 rv9 => ?_)
    have bv9 : 0 ≤ v9 ∧ v9 ≤ 400 := by rw [ev9]; exact iM8.2.2.2.1.1
    have yv9 : v9 = v1 + 1 := ev9.trans xM8_37_4
    refine g_iconst (pc' := 47) dX4_write_46 rfl ?_
    refine g_isub (pc' := 48) dX4_write_47 rfl ?_
    refine g_ireturn dX4_write_48 ?_
    exact ⟨iM8, fM8, by omega⟩
  · refine g_iconst (pc' := 11) dX4_write_10 rfl ?_
    refine g_ireturn dX4_write_11 ?_
    exact ⟨hi, Fr.rf, by omega⟩
set_option maxHeartbeats 4000000 in
set_option maxRecDepth 100000 in
theorem c_X4_leadHere (X : Cx) (M : Mm) (hi : IC M) (a : Int) (ha : inI a) : Con X 0 yX4_leadHere cX4_leadHere 2 none [vr X 37, vi a] M (Qv (fun M1 => IC M1 ∧ Fr (fun c => 37 ≤ c ∧ c ≤ 40) M M1)) := by
  refine Con.ofG rfl (Nat.le_of_ble_eq_true rfl) ?_
  show G X 0 RX4 cX4_leadHere 2 none (Qv (fun M1 => IC M1 ∧ Fr (fun c => 37 ≤ c ∧ c ≤ 40) M M1)) 0 [(0, vr X 37), (1, vi a)] [] M
  refine g_iload_n (pc' := 1) 1 dX4_leadHere_0 rfl rfl ?_
  refine g_if_lt (pc' := 4) (tgt := 22) ha dX4_leadHere_1 rfl rfl (fun c1 => ?_) (fun c1 => ?_)
  · refine g_vreturn dX4_leadHere_22 ?_
    exact ⟨hi, Fr.rf⟩
  · refine g_iload_n (pc' := 5) 1 dX4_leadHere_4 rfl rfl ?_
    refine g_aload_n (pc' := 6) 0 dX4_leadHere_5 rfl rfl ?_
    refine g_getI (pc' := 9) dX4_leadHere_6 rfl f_X4_25 rfl rfl (fun v2 ev2 rv2 => ?_)
    have bv2 : 0 ≤ v2 ∧ v2 ≤ 400 := by rw [ev2]; exact hi.2.2.2.1.1
    refine g_ic_ge (pc' := 12) (tgt := 22) ha rv2 dX4_leadHere_9 rfl rfl (fun c3 => ?_) (fun c3 => ?_)
    · refine g_vreturn dX4_leadHere_22 ?_
      exact ⟨hi, Fr.rf⟩
    · refine g_aload_n (pc' := 13) 0 dX4_leadHere_12 rfl rfl ?_
      refine g_getR (pc' := 16) dX4_leadHere_13 rfl f_X4_21 rfl rfl ?_
      refine g_iload_n (pc' := 17) 1 dX4_leadHere_16 rfl rfl ?_
      refine g_aload_n (pc' := 18) 0 dX4_leadHere_17 rfl rfl ?_
      refine g_getI (pc' := 21) dX4_leadHere_18 rfl f_X4_25 rfl rfl (fun v4 ev4 rv4 => ?_)
      obtain rfl : v2 = v4 := ev2.trans ev4.symm
      refine g_iast (pc' := 22) dX4_leadHere_21 rfl rfl (by omega) (by omega) rv2 (fun M5 hM5 => ?_)
      have iM5 : IC M5 := IC.wr hi hM5 (by unfold okw isT; first | decide | omega)
      have fM5 : Fr (fun c => 37 ≤ c ∧ c ≤ 40) M M5 := Fr.wr Fr.rf hM5 (by first | decide | omega | (dsimp only; omega))
      refine g_vreturn dX4_leadHere_22 ?_
      exact ⟨iM5, fM5⟩
set_option maxHeartbeats 4000000 in
set_option maxRecDepth 100000 in
theorem l_X8_append_3 (X : Cx) (M : Mm) (hi : IC M) (a : Int) (ha : inI a) : ∀ (kk : Nat) (s : Int) (M1 : Mm) (ic1 : IC M1) (fr1 : Fr (fun c => c = 31 ∨ c = 32) M M1) (hs : s = 24 ∨ s = 16 ∨ s = 8 ∨ s = 0 ∨ s = -8) (ht : M 31 1 ≤ 396 → 8 * (M1 31 1 - M 31 1) = 24 - s), (s + 8).toNat = kk → G X 0 RX8 cX8_append 3 none (Qv (fun M1 => IC M1 ∧ Fr (fun c => c = 31 ∨ c = 32) M M1 ∧ (M 31 1 ≤ 396 → M1 31 1 = M 31 1 + 4))) 3 [(2, vi s), (0, vr X 31), (1, vi a)] [] M1 := by
  intro kk
  induction kk using Nat.strongRecOn with
  | ind kk ih =>
    intro s M1 ic1 fr1 hs ht hmes
    refine g_iload_n (pc' := 4) 0 dX8_append_3 rfl rfl ?_
    refine g_if_lt (pc' := 7) (tgt := 49) ⟨by omega, by omega⟩ dX8_append_4 rfl rfl (fun c1 => ?_) (fun c1 => ?_)
    · refine g_vreturn dX8_append_49 ?_
      exact ⟨ic1, fr1, by omega⟩
    · refine g_aload_n (pc' := 8) 1 dX8_append_7 rfl rfl ?_
      refine g_getI (pc' := 11) dX8_append_8 rfl f_X8_27 rfl rfl (fun v2 ev2 rv2 => ?_)
      have bv2 : 0 ≤ v2 ∧ v2 ≤ 400 := by rw [ev2]; exact ic1.2.2.1.1
      refine g_sipush (pc' := 14) (v := 400) dX8_append_11 rfl (by decide) ?_
      refine g_ic_ge (pc' := 17) (tgt := 49) rv2 (by decide) dX8_append_14 rfl rfl (fun c3 => ?_) (fun c3 => ?_)
      · refine g_vreturn dX8_append_49 ?_
        exact ⟨ic1, fr1, by omega⟩
      · refine g_aload_n (pc' := 18) 1 dX8_append_17 rfl rfl ?_
        refine g_getR (pc' := 21) dX8_append_18 rfl f_X8_9 rfl rfl ?_
        refine g_aload_n (pc' := 22) 1 dX8_append_21 rfl rfl ?_
        refine g_getI (pc' := 25) dX8_append_22 rfl f_X8_27 rfl rfl (fun v4 ev4 rv4 => ?_)
        obtain rfl : v2 = v4 := ev2.trans ev4.symm
        refine g_iload_n (pc' := 26) 2 dX8_append_25 rfl rfl ?_
        refine g_iload_n (pc' := 27) 0 dX8_append_26 rfl rfl ?_
        refine g_ishr (pc' := 28) dX8_append_27 rfl (fun r5 => ?_)
        refine g_sipush (pc' := 31) (v := 255) dX8_append_28 rfl (by decide) ?_
        refine g_iand (pc' := 32) dX8_append_31 rfl (fun r6 => ?_)
        refine g_iast (pc' := 33) dX8_append_32 rfl rfl (by omega) (by omega) r6 (fun M7 hM7 => ?_)
        have iM7 : IC M7 := IC.wr ic1 hM7 (by unfold okw isT; first | decide | omega)
        have fM7 : Fr (fun c => c = 31 ∨ c = 32) M M7 := Fr.wr fr1 hM7 (by first | decide | omega | (dsimp only; omega))
        have lM7 : M7 31 1 = M1 31 1 := by rw [hM7, mu_cell _ _ (by decide)]
        refine g_aload_n (pc' := 34) 1 dX8_append_33 rfl rfl ?_
        refine g_dup (pc' := 35) dX8_append_34 rfl rfl ?_
        refine g_getI (pc' := 38) dX8_append_35 rfl f_X8_27 rfl rfl (fun v8 ev8 rv8 => ?_)
        have bv8 : 0 ≤ v8 ∧ v8 ≤ 400 := by rw [ev8]; exact iM7.2.2.1.1
        refine g_iconst (pc' := 39) dX8_append_38 rfl ?_
        refine g_iadd (pc' := 40) dX8_append_39 rfl ?_
        refine g_putI (pc' := 43) dX8_append_40 rfl p_X8_27 rfl rfl ⟨by omega, by omega⟩ (fun M9 hM9 => ?_)
        have iM9 : IC M9 := IC.wr iM7 hM9 (by unfold okw isT; first | decide | omega)
        have fM9 : Fr (fun c => c = 31 ∨ c = 32) M M9 := Fr.wr fM7 hM9 (by first | decide | omega | (dsimp only; omega))
        have xM9_31_1 : M9 31 1 = v8 + 1 := by rw [hM9]; exact mu_at _ _ _ _
        have lM9 : M9 31 1 = v8 + 1 := by rw [hM9]; exact mu_at _ _ _ _
        refine g_iinc (pc' := 46) (L' := [(2, vi (s + (-8))), (0, vr X 31), (1, vi a)]) 0 dX8_append_43 rfl rfl (by decide) rfl ?_
        refine g_goto (tgt := 3) dX8_append_46 rfl ?_
        refine g_sub [0, 1, 2] rfl ?_
        exact ih _ (by omega) (s + (-8)) M9 iM9 fM9 (by omega) (by intro z; have := lM9; omega) rfl
set_option maxHeartbeats 4000000 in
set_option maxRecDepth 100000 in
theorem c_X8_append (X : Cx) (M : Mm) (hi : IC M) (a : Int) (ha : inI a) : Con X 0 yX8_append cX8_append 3 none [vr X 31, vi a] M (Qv (fun M1 => IC M1 ∧ Fr (fun c => c = 31 ∨ c = 32) M M1 ∧ (M 31 1 ≤ 396 → M1 31 1 = M 31 1 + 4))) := by
  refine Con.ofG rfl (Nat.le_of_ble_eq_true rfl) ?_
  show G X 0 RX8 cX8_append 3 none (Qv (fun M1 => IC M1 ∧ Fr (fun c => c = 31 ∨ c = 32) M M1 ∧ (M 31 1 ≤ 396 → M1 31 1 = M 31 1 + 4))) 0 [(0, vr X 31), (1, vi a)] [] M
  refine g_bipush (pc' := 2) (v := 24) dX8_append_0 rfl (by decide) ?_
  refine g_istore_n (pc' := 3) (i := 2) (L' := [(2, vi 24), (0, vr X 31), (1, vi a)]) dX8_append_2 rfl rfl (by decide) rfl ?_
  refine g_sub [0, 1, 2] rfl ?_
  exact l_X8_append_3 X M hi a ha _ 24 M hi Fr.rf (by omega) (by intro z; have := (rfl : (0:Nat) = 0); omega) rfl
set_option maxHeartbeats 4000000 in
set_option maxRecDepth 100000 in
theorem c_X8_isFirstOfToken (X : Cx) (M : Mm) (hi : IC M) (p : Int) (hp : inI p) (pp : 0 ≤ p ∧ p ≤ 399) : Con X 1 yX8_isFirstOfToken cX8_isFirstOfToken 3 (some .boolean) [vr X 31, vi p] M (Qi (fun r M1 => M1 = M ∧ (r = 0 ∨ r = 1))) := by
  refine Con.ofG rfl (Nat.le_of_ble_eq_true rfl) ?_
  show G X 1 RX8 cX8_isFirstOfToken 3 (some .boolean) (Qi (fun r M1 => M1 = M ∧ (r = 0 ∨ r = 1))) 0 [(0, vr X 31), (1, vi p)] [] M
  refine g_aload_n (pc' := 1) 0 dX8_isFirstOfToken_0 rfl rfl ?_
  refine g_getR (pc' := 4) dX8_isFirstOfToken_1 rfl f_X8_9 rfl rfl ?_
  refine g_iload_n (pc' := 5) 1 dX8_isFirstOfToken_4 rfl rfl ?_
  refine g_iald (pc' := 6) dX8_isFirstOfToken_5 rfl rfl (by omega) (by omega) (fun v1 ev1 rv1 => ?_)
  refine g_callSip (pc' := 9) (As := [vi v1]) (S := []) dX8_isFirstOfToken_6 rfl m_X8_41 w_X8_kindOf (c_X8_kindOf X M v1 rv1) rfl (by decide) (by decide) rfl (Nat.le_of_ble_eq_true rfl) (fun z3 q2 => ?_)
  refine g_istore_n (pc' := 10) (i := 2) (L' := [(2, vi z3), (0, vr X 31), (1, vi p)]) dX8_isFirstOfToken_9 rfl rfl (by decide) rfl ?_
  refine g_aload_n (pc' := 11) 1 dX8_isFirstOfToken_10 rfl rfl ?_
  refine g_getR (pc' := 14) dX8_isFirstOfToken_11 rfl f_X8_9 rfl rfl ?_
  refine g_iload_n (pc' := 15) 2 dX8_isFirstOfToken_14 rfl rfl ?_
  refine g_iald (pc' := 16) dX8_isFirstOfToken_15 rfl rfl (by omega) (by omega) (fun v4 ev4 rv4 => ?_)
  obtain rfl : v1 = v4 := ev1.trans ev4.symm
  refine g_bipush (pc' := 18) (v := 32) dX8_isFirstOfToken_16 rfl (by decide) ?_
  refine g_ic_ne (pc' := 21) (tgt := 23) rv1 (by decide) dX8_isFirstOfToken_18 rfl rfl (fun c5 => ?_) (fun c5 => ?_)
  · refine g_iload_n (pc' := 24) 0 dX8_isFirstOfToken_23 rfl rfl ?_
    refine g_iconst (pc' := 25) dX8_isFirstOfToken_24 rfl ?_
    refine g_ic_eq (pc' := 28) (tgt := 47) ⟨by omega, by omega⟩ (by decide) dX8_isFirstOfToken_25 rfl rfl (fun c6 => ?_) (fun c6 => ?_)
    · refine g_iconst (pc' := 48) dX8_isFirstOfToken_47 rfl ?_
      refine g_goto (tgt := 52) dX8_isFirstOfToken_48 rfl ?_
      refine g_zreturn dX8_isFirstOfToken_52 (by omega) ?_
      exact ⟨rfl, by omega⟩
    · refine g_iload_n (pc' := 29) 2 dX8_isFirstOfToken_28 rfl rfl ?_
      refine g_if_eq (pc' := 32) (tgt := 47) hp dX8_isFirstOfToken_29 rfl rfl (fun c7 => ?_) (fun c7 => ?_)
      · refine g_iconst (pc' := 48) dX8_isFirstOfToken_47 rfl ?_
        refine g_goto (tgt := 52) dX8_isFirstOfToken_48 rfl ?_
        refine g_zreturn dX8_isFirstOfToken_52 (by omega) ?_
        exact ⟨rfl, by omega⟩
      · refine g_aload_n (pc' := 33) 1 dX8_isFirstOfToken_32 rfl rfl ?_
        refine g_getR (pc' := 36) dX8_isFirstOfToken_33 rfl f_X8_9 rfl rfl ?_
        refine g_iload_n (pc' := 37) 2 dX8_isFirstOfToken_36 rfl rfl ?_
        refine g_iconst (pc' := 38) dX8_isFirstOfToken_37 rfl ?_
        refine g_isub (pc' := 39) dX8_isFirstOfToken_38 rfl ?_
        refine g_iald (pc' := 40) dX8_isFirstOfToken_39 rfl rfl (by omega) (by omega) (fun v8 ev8 rv8 => ?_)
        refine g_callSip (pc' := 43) (As := [vi v8]) (S := []) dX8_isFirstOfToken_40 rfl m_X8_41 w_X8_kindOf (c_X8_kindOf X M v8 rv8) rfl (by decide) (by decide) rfl (Nat.le_of_ble_eq_true rfl) (fun z10 q9 => ?_)
        refine g_iload_n (pc' := 44) 0 dX8_isFirstOfToken_43 rfl rfl ?_
        refine g_ic_eq (pc' := 47) (tgt := 51) ⟨by omega, by omega⟩ ⟨by omega, by omega⟩ dX8_isFirstOfToken_44 rfl rfl (fun c11 => ?_) (fun c11 => ?_)
        · refine g_iconst (pc' := 52) dX8_isFirstOfToken_51 rfl ?_
          refine g_zreturn dX8_isFirstOfToken_52 (by omega) ?_
          exact ⟨rfl, by omega⟩
        · refine g_iconst (pc' := 48) dX8_isFirstOfToken_47 rfl ?_
          refine g_goto (tgt := 52) dX8_isFirstOfToken_48 rfl ?_
          refine g_zreturn dX8_isFirstOfToken_52 (by omega) ?_
          exact ⟨rfl, by omega⟩
  · refine g_iconst (pc' := 22) dX8_isFirstOfToken_21 rfl ?_
    refine g_zreturn dX8_isFirstOfToken_22 (by omega) ?_
    exact ⟨rfl, by omega⟩
set_option maxHeartbeats 4000000 in
set_option maxRecDepth 100000 in
theorem c_X8_place (X : Cx) (M : Mm) (hi : IC M) : Con X 0 yX8_place cX8_place 1 (some .int) [vr X 31] M (Qi (fun r M1 => M1 = M ∧ (inI r))) := by
  refine Con.ofG rfl (Nat.le_of_ble_eq_true rfl) ?_
  show G X 0 RX8 cX8_place 1 (some .int) (Qi (fun r M1 => M1 = M ∧ (inI r))) 0 [(0, vr X 31)] [] M
  refine g_aload_n (pc' := 1) 0 dX8_place_0 rfl rfl ?_
  refine g_getR (pc' := 4) dX8_place_1 rfl f_X8_18 rfl rfl ?_
  refine g_aload_n (pc' := 5) 0 dX8_place_4 rfl rfl ?_
  refine g_getI (pc' := 8) dX8_place_5 rfl f_X8_34 rfl rfl (fun v1 ev1 rv1 => ?_)
  have bv1 : 0 ≤ v1 ∧ v1 ≤ 400 := by rw [ev1]; exact hi.2.2.1.2.1
  refine g_iald (pc' := 9) dX8_place_8 rfl rfl (by omega) (by omega) (fun v2 ev2 rv2 => ?_)
  have bv2 : 0 ≤ v2 ∧ v2 ≤ 400 := by rw [ev2]; exact ⟨(hi.2.2.1.2.2.2 _ (by omega)).1, (hi.2.2.1.2.2.2 _ (by omega)).2.1⟩
  refine g_ireturn dX8_place_9 ?_
  exact ⟨rfl, by assumption⟩
set_option maxHeartbeats 4000000 in
set_option maxRecDepth 100000 in
theorem c_X8_isEnd (X : Cx) (M : Mm) (hi : IC M) : Con X 0 yX8_isEnd cX8_isEnd 1 (some .boolean) [vr X 31] M (Qi (fun r M1 => M1 = M ∧ (r = 0 ∨ r = 1))) := by
  refine Con.ofG rfl (Nat.le_of_ble_eq_true rfl) ?_
  show G X 0 RX8 cX8_isEnd 1 (some .boolean) (Qi (fun r M1 => M1 = M ∧ (r = 0 ∨ r = 1))) 0 [(0, vr X 31)] [] M
  refine g_aload_n (pc' := 1) 0 dX8_isEnd_0 rfl rfl ?_
  refine g_getR (pc' := 4) dX8_isEnd_1 rfl f_X8_15 rfl rfl ?_
  refine g_aload_n (pc' := 5) 0 dX8_isEnd_4 rfl rfl ?_
  refine g_getI (pc' := 8) dX8_isEnd_5 rfl f_X8_34 rfl rfl (fun v1 ev1 rv1 => ?_)
  have bv1 : 0 ≤ v1 ∧ v1 ≤ 400 := by rw [ev1]; exact hi.2.2.1.2.1
  refine g_iald (pc' := 9) dX8_isEnd_8 rfl rfl (by omega) (by omega) (fun v2 ev2 rv2 => ?_)
  refine g_if_ne (pc' := 12) (tgt := 16) rv2 dX8_isEnd_9 rfl rfl (fun c3 => ?_) (fun c3 => ?_)
  · refine g_iconst (pc' := 17) dX8_isEnd_16 rfl ?_
    refine g_zreturn dX8_isEnd_17 (by omega) ?_
    exact ⟨rfl, by omega⟩
  · refine g_iconst (pc' := 13) dX8_isEnd_12 rfl ?_
    refine g_goto (tgt := 17) dX8_isEnd_13 rfl ?_
    refine g_zreturn dX8_isEnd_17 (by omega) ?_
    exact ⟨rfl, by omega⟩
set_option maxHeartbeats 4000000 in
set_option maxRecDepth 100000 in
theorem c_X8_isSign (X : Cx) (M : Mm) (hi : IC M) (a : Int) (ha : inI a) : Con X 0 yX8_isSign cX8_isSign 2 (some .boolean) [vr X 31, vi a] M (Qi (fun r M1 => M1 = M ∧ (r = 0 ∨ r = 1))) := by
  refine Con.ofG rfl (Nat.le_of_ble_eq_true rfl) ?_
  show G X 0 RX8 cX8_isSign 2 (some .boolean) (Qi (fun r M1 => M1 = M ∧ (r = 0 ∨ r = 1))) 0 [(0, vr X 31), (1, vi a)] [] M
  refine g_aload_n (pc' := 1) 0 dX8_isSign_0 rfl rfl ?_
  refine g_getR (pc' := 4) dX8_isSign_1 rfl f_X8_15 rfl rfl ?_
  refine g_aload_n (pc' := 5) 0 dX8_isSign_4 rfl rfl ?_
  refine g_getI (pc' := 8) dX8_isSign_5 rfl f_X8_34 rfl rfl (fun v1 ev1 rv1 => ?_)
  have bv1 : 0 ≤ v1 ∧ v1 ≤ 400 := by rw [ev1]; exact hi.2.2.1.2.1
  refine g_iald (pc' := 9) dX8_isSign_8 rfl rfl (by omega) (by omega) (fun v2 ev2 rv2 => ?_)
  have zv2 : v2 ≠ 0 → M 34 v1.toNat ≤ 399 := by rw [ev2]; exact (hi.2.2.1.2.2.2 _ (by omega)).2.2.2.2
  have uv2 : v2 ≠ 0 → v1 ≠ 400 := by intro h1 h2; apply h1; rw [ev2, h2]; exact hi.2.2.1.2.2.1
  refine g_iconst (pc' := 10) dX8_isSign_9 rfl ?_
  refine g_ic_ne (pc' := 13) (tgt := 35) rv2 (by decide) dX8_isSign_10 rfl rfl (fun c3 => ?_) (fun c3 => ?_)
  · refine g_iconst (pc' := 36) dX8_isSign_35 rfl ?_
    refine g_zreturn dX8_isSign_36 (by omega) ?_
    exact ⟨rfl, by omega⟩
  · refine g_aload_n (pc' := 14) 0 dX8_isSign_13 rfl rfl ?_
    refine g_getR (pc' := 17) dX8_isSign_14 rfl f_X8_9 rfl rfl ?_
    refine g_aload_n (pc' := 18) 0 dX8_isSign_17 rfl rfl ?_
    refine g_getR (pc' := 21) dX8_isSign_18 rfl f_X8_18 rfl rfl ?_
    refine g_aload_n (pc' := 22) 0 dX8_isSign_21 rfl rfl ?_
    refine g_getI (pc' := 25) dX8_isSign_22 rfl f_X8_34 rfl rfl (fun v4 ev4 rv4 => ?_)
    obtain rfl : v1 = v4 := ev1.trans ev4.symm
    refine g_iald (pc' := 26) dX8_isSign_25 rfl rfl (by omega) (by omega) (fun v5 ev5 rv5 => ?_)
    have bv5 : 0 ≤ v5 ∧ v5 ≤ 400 := by rw [ev5]; exact ⟨(hi.2.2.1.2.2.2 _ (by omega)).1, (hi.2.2.1.2.2.2 _ (by omega)).2.1⟩
    have sv5 : v2 ≠ 0 → v5 ≤ 399 := by rw [ev5]; exact zv2
    refine g_iald (pc' := 27) dX8_isSign_26 rfl rfl (by omega) (by omega) (fun v6 ev6 rv6 => ?_)
    refine g_iload_n (pc' := 28) 1 dX8_isSign_27 rfl rfl ?_
    refine g_ic_ne (pc' := 31) (tgt := 35) rv6 ha dX8_isSign_28 rfl rfl (fun c7 => ?_) (fun c7 => ?_)
    · refine g_iconst (pc' := 36) dX8_isSign_35 rfl ?_
      refine g_zreturn dX8_isSign_36 (by omega) ?_
      exact ⟨rfl, by omega⟩
    · refine g_iconst (pc' := 32) dX8_isSign_31 rfl ?_
      refine g_goto (tgt := 36) dX8_isSign_32 rfl ?_
      refine g_zreturn dX8_isSign_36 (by omega) ?_
      exact ⟨rfl, by omega⟩
set_option maxHeartbeats 4000000 in
set_option maxRecDepth 100000 in
theorem c_X8_takeSign (X : Cx) (M : Mm) (hi : IC M) (a : Int) (ha : inI a) : Con X 0 yX8_takeSign cX8_takeSign 2 (some .boolean) [vr X 31, vi a] M (Qi (fun r M1 => IC M1 ∧ Fr (fun c => c = 31) M M1 ∧ M1 31 1 = M 31 1 ∧ (r = 0 ∨ r = 1))) := by
  refine Con.ofG rfl (Nat.le_of_ble_eq_true rfl) ?_
  show G X 0 RX8 cX8_takeSign 2 (some .boolean) (Qi (fun r M1 => IC M1 ∧ Fr (fun c => c = 31) M M1 ∧ M1 31 1 = M 31 1 ∧ (r = 0 ∨ r = 1))) 0 [(0, vr X 31), (1, vi a)] [] M
  refine g_aload_n (pc' := 1) 0 dX8_takeSign_0 rfl rfl ?_
  refine g_getR (pc' := 4) dX8_takeSign_1 rfl f_X8_15 rfl rfl ?_
  refine g_aload_n (pc' := 5) 0 dX8_takeSign_4 rfl rfl ?_
  refine g_getI (pc' := 8) dX8_takeSign_5 rfl f_X8_34 rfl rfl (fun v1 ev1 rv1 => ?_)
  have bv1 : 0 ≤ v1 ∧ v1 ≤ 400 := by rw [ev1]; exact hi.2.2.1.2.1
  refine g_iald (pc' := 9) dX8_takeSign_8 rfl rfl (by omega) (by omega) (fun v2 ev2 rv2 => ?_)
  have zv2 : v2 ≠ 0 → M 34 v1.toNat ≤ 399 := by rw [ev2]; exact (hi.2.2.1.2.2.2 _ (by omega)).2.2.2.2
  have uv2 : v2 ≠ 0 → v1 ≠ 400 := by intro h1 h2; apply h1; rw [ev2, h2]; exact hi.2.2.1.2.2.1
  refine g_iconst (pc' := 10) dX8_takeSign_9 rfl ?_
  refine g_ic_ne (pc' := 13) (tgt := 31) rv2 (by decide) dX8_takeSign_10 rfl rfl (fun c3 => ?_) (fun c3 => ?_)
  · refine g_iconst (pc' := 32) dX8_takeSign_31 rfl ?_
    refine g_zreturn dX8_takeSign_32 (by omega) ?_
    exact ⟨hi, Fr.rf, rfl, by omega⟩
  · refine g_aload_n (pc' := 14) 0 dX8_takeSign_13 rfl rfl ?_
    refine g_getR (pc' := 17) dX8_takeSign_14 rfl f_X8_9 rfl rfl ?_
    refine g_aload_n (pc' := 18) 0 dX8_takeSign_17 rfl rfl ?_
    refine g_getR (pc' := 21) dX8_takeSign_18 rfl f_X8_18 rfl rfl ?_
    refine g_aload_n (pc' := 22) 0 dX8_takeSign_21 rfl rfl ?_
    refine g_getI (pc' := 25) dX8_takeSign_22 rfl f_X8_34 rfl rfl (fun v4 ev4 rv4 => ?_)
    obtain rfl : v1 = v4 := ev1.trans ev4.symm
    refine g_iald (pc' := 26) dX8_takeSign_25 rfl rfl (by omega) (by omega) (fun v5 ev5 rv5 => ?_)
    have bv5 : 0 ≤ v5 ∧ v5 ≤ 400 := by rw [ev5]; exact ⟨(hi.2.2.1.2.2.2 _ (by omega)).1, (hi.2.2.1.2.2.2 _ (by omega)).2.1⟩
    have sv5 : v2 ≠ 0 → v5 ≤ 399 := by rw [ev5]; exact zv2
    refine g_iald (pc' := 27) dX8_takeSign_26 rfl rfl (by omega) (by omega) (fun v6 ev6 rv6 => ?_)
    refine g_iload_n (pc' := 28) 1 dX8_takeSign_27 rfl rfl ?_
    refine g_ic_eq (pc' := 31) (tgt := 33) rv6 ha dX8_takeSign_28 rfl rfl (fun c7 => ?_) (fun c7 => ?_)
    · refine g_aload_n (pc' := 34) 0 dX8_takeSign_33 rfl rfl ?_
      refine g_dup (pc' := 35) dX8_takeSign_34 rfl rfl ?_
      refine g_getI (pc' := 38) dX8_takeSign_35 rfl f_X8_34 rfl rfl (fun v8 ev8 rv8 => ?_)
      obtain rfl : v1 = v8 := ev1.trans ev8.symm
      refine g_iconst (pc' := 39) dX8_takeSign_38 rfl ?_
      refine g_iadd (pc' := 40) dX8_takeSign_39 rfl ?_
      refine g_putI (pc' := 43) dX8_takeSign_40 rfl p_X8_34 rfl rfl ⟨by omega, by omega⟩ (fun M9 hM9 => ?_)
      have iM9 : IC M9 := IC.wr hi hM9 (by unfold okw isT; first | decide | omega)
      have fM9 : Fr (fun c => c = 31) M M9 := Fr.wr Fr.rf hM9 (by first | decide | omega | (dsimp only; omega))
      have q31_1_M9 : id (M9 31 1 = M 31 1) := (show M9 31 1 = M 31 1 by rw [hM9]; exact mu_ne _ _ (by first | decide | omega))
      have xM9_31_7 : M9 31 7 = v1 + 1 := by rw [hM9]; exact mu_at _ _ _ _
      refine g_iconst (pc' := 44) dX8_takeSign_43 rfl ?_
      refine g_zreturn dX8_takeSign_44 (by omega) ?_
      exact ⟨iM9, fM9, q31_1_M9, by omega⟩
    · refine g_iconst (pc' := 32) dX8_takeSign_31 rfl ?_
      refine g_zreturn dX8_takeSign_32 (by omega) ?_
      exact ⟨hi, Fr.rf, rfl, by omega⟩
set_option maxHeartbeats 4000000 in
set_option maxRecDepth 100000 in
theorem c_X8_takeNumber (X : Cx) (M : Mm) (hi : IC M) (a : Int) (ha : inI a) (b : Int) (hb : inI b) : Con X 0 yX8_takeNumber cX8_takeNumber 3 (some .int) [vr X 31, vi a, vi b] M (Qi (fun r M1 => IC M1 ∧ Fr (fun c => c = 31) M M1 ∧ M1 31 1 = M 31 1 ∧ (inI r))) := by
  refine Con.ofG rfl (Nat.le_of_ble_eq_true rfl) ?_
  show G X 0 RX8 cX8_takeNumber 3 (some .int) (Qi (fun r M1 => IC M1 ∧ Fr (fun c => c = 31) M M1 ∧ M1 31 1 = M 31 1 ∧ (inI r))) 0 [(0, vr X 31), (1, vi a), (2, vi b)] [] M
  refine g_aload_n (pc' := 1) 0 dX8_takeNumber_0 rfl rfl ?_
  refine g_getR (pc' := 4) dX8_takeNumber_1 rfl f_X8_15 rfl rfl ?_
  refine g_aload_n (pc' := 5) 0 dX8_takeNumber_4 rfl rfl ?_
  refine g_getI (pc' := 8) dX8_takeNumber_5 rfl f_X8_34 rfl rfl (fun v1 ev1 rv1 => ?_)
  have bv1 : 0 ≤ v1 ∧ v1 ≤ 400 := by rw [ev1]; exact hi.2.2.1.2.1
  refine g_iald (pc' := 9) dX8_takeNumber_8 rfl rfl (by omega) (by omega) (fun v2 ev2 rv2 => ?_)
  have zv2 : v2 ≠ 0 → M 34 v1.toNat ≤ 399 := by rw [ev2]; exact (hi.2.2.1.2.2.2 _ (by omega)).2.2.2.2
  have uv2 : v2 ≠ 0 → v1 ≠ 400 := by intro h1 h2; apply h1; rw [ev2, h2]; exact hi.2.2.1.2.2.1
  refine g_iconst (pc' := 10) dX8_takeNumber_9 rfl ?_
  refine g_ic_ne (pc' := 13) (tgt := 39) rv2 (by decide) dX8_takeNumber_10 rfl rfl (fun c3 => ?_) (fun c3 => ?_)
  · refine g_iconst (pc' := 40) dX8_takeNumber_39 rfl ?_
    refine g_ireturn dX8_takeNumber_40 ?_
    exact ⟨hi, Fr.rf, rfl, by first | assumption | decide⟩
  · refine g_aload_n (pc' := 14) 0 dX8_takeNumber_13 rfl rfl ?_
    refine g_getR (pc' := 17) dX8_takeNumber_14 rfl f_X8_24 rfl rfl ?_
    refine g_aload_n (pc' := 18) 0 dX8_takeNumber_17 rfl rfl ?_
    refine g_getI (pc' := 21) dX8_takeNumber_18 rfl f_X8_34 rfl rfl (fun v4 ev4 rv4 => ?_)
    obtain rfl : v1 = v4 := ev1.trans ev4.symm
    refine g_iald (pc' := 22) dX8_takeNumber_21 rfl rfl (by omega) (by omega) (fun v5 ev5 rv5 => ?_)
    refine g_iload_n (pc' := 23) 1 dX8_takeNumber_22 rfl rfl ?_
    refine g_ic_lt (pc' := 26) (tgt := 39) rv5 ha dX8_takeNumber_23 rfl rfl (fun c6 => ?_) (fun c6 => ?_)
    · refine g_iconst (pc' := 40) dX8_takeNumber_39 rfl ?_
      refine g_ireturn dX8_takeNumber_40 ?_
      exact ⟨hi, Fr.rf, rfl, by first | assumption | decide⟩
    · refine g_aload_n (pc' := 27) 0 dX8_takeNumber_26 rfl rfl ?_
      refine g_getR (pc' := 30) dX8_takeNumber_27 rfl f_X8_24 rfl rfl ?_
      refine g_aload_n (pc' := 31) 0 dX8_takeNumber_30 rfl rfl ?_
      refine g_getI (pc' := 34) dX8_takeNumber_31 rfl f_X8_34 rfl rfl (fun v7 ev7 rv7 => ?_)
      obtain rfl : v1 = v7 := ev1.trans ev7.symm
      refine g_iald (pc' := 35) dX8_takeNumber_34 rfl rfl (by omega) (by omega) (fun v8 ev8 rv8 => ?_)
      obtain rfl : v5 = v8 := ev5.trans ev8.symm
      refine g_iload_n (pc' := 36) 2 dX8_takeNumber_35 rfl rfl ?_
      refine g_ic_le (pc' := 39) (tgt := 41) rv5 hb dX8_takeNumber_36 rfl rfl (fun c9 => ?_) (fun c9 => ?_)
      · refine g_aload_n (pc' := 42) 0 dX8_takeNumber_41 rfl rfl ?_
        refine g_dup (pc' := 43) dX8_takeNumber_42 rfl rfl ?_
        refine g_getI (pc' := 46) dX8_takeNumber_43 rfl f_X8_34 rfl rfl (fun v10 ev10 rv10 => ?_)
        obtain rfl : v1 = v10 := ev1.trans ev10.symm
        refine g_iconst (pc' := 47) dX8_takeNumber_46 rfl ?_
        refine g_iadd (pc' := 48) dX8_takeNumber_47 rfl ?_
        refine g_putI (pc' := 51) dX8_takeNumber_48 rfl p_X8_34 rfl rfl ⟨by omega, by omega⟩ (fun M11 hM11 => ?_)
        have iM11 : IC M11 := IC.wr hi hM11 (by unfold okw isT; first | decide | omega)
        have fM11 : Fr (fun c => c = 31) M M11 := Fr.wr Fr.rf hM11 (by first | decide | omega | (dsimp only; omega))
        have q31_1_M11 : id (M11 31 1 = M 31 1) := (show M11 31 1 = M 31 1 by rw [hM11]; exact mu_ne _ _ (by first | decide | omega))
        have xM11_31_7 : M11 31 7 = v1 + 1 := by rw [hM11]; exact mu_at _ _ _ _
        refine g_aload_n (pc' := 52) 0 dX8_takeNumber_51 rfl rfl ?_
        refine g_getR (pc' := 55) dX8_takeNumber_52 rfl f_X8_24 rfl rfl ?_
        refine g_aload_n (pc' := 56) 0 dX8_takeNumber_55 rfl rfl ?_
        refine g_getI (pc' := 59) dX8_takeNumber_56 rfl f_X8_34 rfl rfl (fun v12 ev12 rv12 => ?_)
        have bv12 : 0 ≤ v12 ∧ v12 ≤ 400 := by rw [ev12]; exact iM11.2.2.1.2.1
        have yv12 : v12 = v1 + 1 := ev12.trans xM11_31_7
        refine g_iconst (pc' := 60) dX8_takeNumber_59 rfl ?_
        refine g_isub (pc' := 61) dX8_takeNumber_60 rfl ?_
        refine g_iald (pc' := 62) dX8_takeNumber_61 rfl rfl (by omega) (by omega) (fun v13 ev13 rv13 => ?_)
        refine g_ireturn dX8_takeNumber_62 ?_
        exact ⟨iM11, fM11, q31_1_M11, by first | assumption | decide⟩
      · refine g_iconst (pc' := 40) dX8_takeNumber_39 rfl ?_
        refine g_ireturn dX8_takeNumber_40 ?_
        exact ⟨hi, Fr.rf, rfl, by first | assumption | decide⟩
set_option maxHeartbeats 4000000 in
set_option maxRecDepth 100000 in
theorem c_X8_beginToken (X : Cx) (M : Mm) (hi : IC M) (p : Int) (hp : inI p) (k : Int) (hk : inI k) (hp2 : 0 ≤ p ∧ p ≤ 400) (ht : 0 ≤ M 31 6 ∧ M 31 6 ≤ 400) (hq : k ≠ 0 → p ≤ 399 ∧ M 31 6 ≤ 399) : Con X 0 yX8_beginToken cX8_beginToken 3 none [vr X 31, vi p, vi k] M (Qv (fun M1 => IC M1 ∧ Fr (fun c => 31 ≤ c ∧ c ≤ 36) M M1 ∧ M1 31 1 = M 31 1 ∧ M1 31 7 = M 31 7 ∧ (M1 31 6 = M 31 6 + 1))) := by
  refine Con.ofG rfl (Nat.le_of_ble_eq_true rfl) ?_
  show G X 0 RX8 cX8_beginToken 3 none (Qv (fun M1 => IC M1 ∧ Fr (fun c => 31 ≤ c ∧ c ≤ 36) M M1 ∧ M1 31 1 = M 31 1 ∧ M1 31 7 = M 31 7 ∧ (M1 31 6 = M 31 6 + 1))) 0 [(0, vr X 31), (1, vi p), (2, vi k)] [] M
  refine g_aload_n (pc' := 1) 0 dX8_beginToken_0 rfl rfl ?_
  refine g_getR (pc' := 4) dX8_beginToken_1 rfl f_X8_15 rfl rfl ?_
  refine g_aload_n (pc' := 5) 0 dX8_beginToken_4 rfl rfl ?_
  refine g_getI (pc' := 8) dX8_beginToken_5 rfl f_X8_31 rfl rfl (fun v1 ev1 rv1 => ?_)
  have av1 : v1 = M 31 6 := ev1
  refine g_iload_n (pc' := 9) 2 dX8_beginToken_8 rfl rfl ?_
  refine g_iast (pc' := 10) dX8_beginToken_9 rfl rfl (by omega) (by omega) hk (fun M2 hM2 => ?_)
  have fM2 : Fr (fun c => 31 ≤ c ∧ c ≤ 36) M M2 := Fr.wr Fr.rf hM2 (by first | decide | omega | (dsimp only; omega))
  have q31_1_M2 : M2 31 1 = M 31 1 := (show M2 31 1 = M 31 1 by rw [hM2]; exact mu_ne _ _ (by first | decide | omega))
  have q31_7_M2 : M2 31 7 = M 31 7 := (show M2 31 7 = M 31 7 by rw [hM2]; exact mu_ne _ _ (by first | decide | omega))
  have q31_6_M2 : M2 31 6 = M 31 6 := (show M2 31 6 = M 31 6 by rw [hM2]; exact mu_ne _ _ (by first | decide | omega))
  refine g_aload_n (pc' := 11) 0 dX8_beginToken_10 rfl rfl ?_
  refine g_getR (pc' := 14) dX8_beginToken_11 rfl f_X8_18 rfl rfl ?_
  refine g_aload_n (pc' := 15) 0 dX8_beginToken_14 rfl rfl ?_
  refine g_getI (pc' := 18) dX8_beginToken_15 rfl f_X8_31 rfl rfl (fun v3 ev3 rv3 => ?_)
  have av3 : v3 = M 31 6 := ev3.trans q31_6_M2
  obtain rfl : v1 = v3 := av1.trans av3.symm
  refine g_iload_n (pc' := 19) 1 dX8_beginToken_18 rfl rfl ?_
  refine g_iast (pc' := 20) dX8_beginToken_19 rfl rfl (by omega) (by omega) hp (fun M4 hM4 => ?_)
  have fM4 : Fr (fun c => 31 ≤ c ∧ c ≤ 36) M M4 := Fr.wr fM2 hM4 (by first | decide | omega | (dsimp only; omega))
  have q31_1_M4 : M4 31 1 = M 31 1 := (show M4 31 1 = M2 31 1 by rw [hM4]; exact mu_ne _ _ (by first | decide | omega)).trans q31_1_M2
  have q31_7_M4 : M4 31 7 = M 31 7 := (show M4 31 7 = M2 31 7 by rw [hM4]; exact mu_ne _ _ (by first | decide | omega)).trans q31_7_M2
  have q31_6_M4 : M4 31 6 = M 31 6 := (show M4 31 6 = M2 31 6 by rw [hM4]; exact mu_ne _ _ (by first | decide | omega)).trans q31_6_M2
  refine g_aload_n (pc' := 21) 0 dX8_beginToken_20 rfl rfl ?_
  refine g_getR (pc' := 24) dX8_beginToken_21 rfl f_X8_21 rfl rfl ?_
  refine g_aload_n (pc' := 25) 0 dX8_beginToken_24 rfl rfl ?_
  refine g_getI (pc' := 28) dX8_beginToken_25 rfl f_X8_31 rfl rfl (fun v5 ev5 rv5 => ?_)
  have av5 : v5 = M 31 6 := ev5.trans q31_6_M4
  obtain rfl : v1 = v5 := av1.trans av5.symm
  refine g_iload_n (pc' := 29) 1 dX8_beginToken_28 rfl rfl ?_
  refine g_iast (pc' := 30) dX8_beginToken_29 rfl rfl (by omega) (by omega) hp (fun M6 hM6 => ?_)
  have fM6 : Fr (fun c => 31 ≤ c ∧ c ≤ 36) M M6 := Fr.wr fM4 hM6 (by first | decide | omega | (dsimp only; omega))
  have q31_1_M6 : M6 31 1 = M 31 1 := (show M6 31 1 = M4 31 1 by rw [hM6]; exact mu_ne _ _ (by first | decide | omega)).trans q31_1_M4
  have q31_7_M6 : M6 31 7 = M 31 7 := (show M6 31 7 = M4 31 7 by rw [hM6]; exact mu_ne _ _ (by first | decide | omega)).trans q31_7_M4
  have q31_6_M6 : M6 31 6 = M 31 6 := (show M6 31 6 = M4 31 6 by rw [hM6]; exact mu_ne _ _ (by first | decide | omega)).trans q31_6_M4
  refine g_aload_n (pc' := 31) 0 dX8_beginToken_30 rfl rfl ?_
  refine g_getR (pc' := 34) dX8_beginToken_31 rfl f_X8_24 rfl rfl ?_
  refine g_aload_n (pc' := 35) 0 dX8_beginToken_34 rfl rfl ?_
  refine g_getI (pc' := 38) dX8_beginToken_35 rfl f_X8_31 rfl rfl (fun v7 ev7 rv7 => ?_)
  have av7 : v7 = M 31 6 := ev7.trans q31_6_M6
  obtain rfl : v1 = v7 := av1.trans av7.symm
  refine g_iconst (pc' := 39) dX8_beginToken_38 rfl ?_
  refine g_iast (pc' := 40) dX8_beginToken_39 rfl rfl (by omega) (by omega) (by decide) (fun M8 hM8 => ?_)
  have fM8 : Fr (fun c => 31 ≤ c ∧ c ≤ 36) M M8 := Fr.wr fM6 hM8 (by first | decide | omega | (dsimp only; omega))
  have q31_1_M8 : M8 31 1 = M 31 1 := (show M8 31 1 = M6 31 1 by rw [hM8]; exact mu_ne _ _ (by first | decide | omega)).trans q31_1_M6
  have q31_7_M8 : M8 31 7 = M 31 7 := (show M8 31 7 = M6 31 7 by rw [hM8]; exact mu_ne _ _ (by first | decide | omega)).trans q31_7_M6
  have q31_6_M8 : M8 31 6 = M 31 6 := (show M8 31 6 = M6 31 6 by rw [hM8]; exact mu_ne _ _ (by first | decide | omega)).trans q31_6_M6
  refine g_aload_n (pc' := 41) 0 dX8_beginToken_40 rfl rfl ?_
  refine g_dup (pc' := 42) dX8_beginToken_41 rfl rfl ?_
  refine g_getI (pc' := 45) dX8_beginToken_42 rfl f_X8_31 rfl rfl (fun v9 ev9 rv9 => ?_)
  have av9 : v9 = M 31 6 := ev9.trans q31_6_M8
  obtain rfl : v1 = v9 := av1.trans av9.symm
  refine g_iconst (pc' := 46) dX8_beginToken_45 rfl ?_
  refine g_iadd (pc' := 47) dX8_beginToken_46 rfl ?_
  refine g_putI (pc' := 50) dX8_beginToken_47 rfl p_X8_31 rfl rfl ⟨by omega, by omega⟩ (fun M10 hM10 => ?_)
  have fM10 : Fr (fun c => 31 ≤ c ∧ c ≤ 36) M M10 := Fr.wr fM8 hM10 (by first | decide | omega | (dsimp only; omega))
  have q31_1_M10 : M10 31 1 = M 31 1 := (show M10 31 1 = M8 31 1 by rw [hM10]; exact mu_ne _ _ (by first | decide | omega)).trans q31_1_M8
  have q31_7_M10 : M10 31 7 = M 31 7 := (show M10 31 7 = M8 31 7 by rw [hM10]; exact mu_ne _ _ (by first | decide | omega)).trans q31_7_M8
  have xM10 : M10 31 6 = v1 + 1 := by rw [hM10]; exact mu_at _ _ _ _
  have iM10 : IC M10 := IC.begin hi (by omega) hp2 (fun z => ⟨(hq z).1, by have := (hq z).2; omega⟩) hM2 hM4 hM6 hM8 hM10
  refine g_vreturn dX8_beginToken_50 ?_
  exact ⟨iM10, fM10, q31_1_M10, q31_7_M10, by omega⟩
set_option maxHeartbeats 4000000 in
set_option maxRecDepth 100000 in
theorem c_X8_growToken (X : Cx) (M : Mm) (hi : IC M) (t : Int) (ht : inI t) (p : Int) (hp : inI p) (ht2 : 0 ≤ t ∧ t ≤ 400) (hp2 : 0 ≤ p ∧ p ≤ 399) : Con X 1 yX8_growToken cX8_growToken 3 none [vr X 31, vi t, vi p] M (Qv (fun M1 => IC M1 ∧ Fr (fun c => c = 35 ∨ c = 36) M M1 ∧ M1 31 1 = M 31 1 ∧ M1 31 7 = M 31 7 ∧ M1 31 6 = M 31 6)) := by
  refine Con.ofG rfl (Nat.le_of_ble_eq_true rfl) ?_
  show G X 1 RX8 cX8_growToken 3 none (Qv (fun M1 => IC M1 ∧ Fr (fun c => c = 35 ∨ c = 36) M M1 ∧ M1 31 1 = M 31 1 ∧ M1 31 7 = M 31 7 ∧ M1 31 6 = M 31 6)) 0 [(0, vr X 31), (1, vi t), (2, vi p)] [] M
  refine g_aload_n (pc' := 1) 0 dX8_growToken_0 rfl rfl ?_
  refine g_getR (pc' := 4) dX8_growToken_1 rfl f_X8_21 rfl rfl ?_
  refine g_iload_n (pc' := 5) 1 dX8_growToken_4 rfl rfl ?_
  refine g_iload_n (pc' := 6) 2 dX8_growToken_5 rfl rfl ?_
  refine g_iconst (pc' := 7) dX8_growToken_6 rfl ?_
  refine g_iadd (pc' := 8) dX8_growToken_7 rfl ?_
  refine g_iast (pc' := 9) dX8_growToken_8 rfl rfl (by omega) (by omega) ⟨by omega, by omega⟩ (fun M1 hM1 => ?_)
  have fM1 : Fr (fun c => c = 35 ∨ c = 36) M M1 := Fr.wr Fr.rf hM1 (by first | decide | omega | (dsimp only; omega))
  have q31_1_M1 : id (M1 31 1 = M 31 1) := (show M1 31 1 = M 31 1 by rw [hM1]; exact mu_ne _ _ (by first | decide | omega))
  have q31_7_M1 : id (M1 31 7 = M 31 7) := (show M1 31 7 = M 31 7 by rw [hM1]; exact mu_ne _ _ (by first | decide | omega))
  have q31_6_M1 : id (M1 31 6 = M 31 6) := (show M1 31 6 = M 31 6 by rw [hM1]; exact mu_ne _ _ (by first | decide | omega))
  have iM1 : IC M1 := IC.w35 hi hM1 (by omega)
  refine g_aload_n (pc' := 10) 0 dX8_growToken_9 rfl rfl ?_
  refine g_getR (pc' := 13) dX8_growToken_10 rfl f_X8_15 rfl rfl ?_
  refine g_iload_n (pc' := 14) 1 dX8_growToken_13 rfl rfl ?_
  refine g_iald (pc' := 15) dX8_growToken_14 rfl rfl (by omega) (by omega) (fun v2 ev2 rv2 => ?_)
  refine g_iconst (pc' := 16) dX8_growToken_15 rfl ?_
  refine g_ic_ne (pc' := 19) (tgt := 50) rv2 (by decide) dX8_growToken_16 rfl rfl (fun c3 => ?_) (fun c3 => ?_)
  · refine g_vreturn dX8_growToken_50 ?_
    exact ⟨iM1, fM1, q31_1_M1, q31_7_M1, q31_6_M1⟩
  · refine g_aload_n (pc' := 20) 0 dX8_growToken_19 rfl rfl ?_
    refine g_getR (pc' := 23) dX8_growToken_20 rfl f_X8_24 rfl rfl ?_
    refine g_iload_n (pc' := 24) 1 dX8_growToken_23 rfl rfl ?_
    refine g_aload_n (pc' := 25) 0 dX8_growToken_24 rfl rfl ?_
    refine g_getR (pc' := 28) dX8_growToken_25 rfl f_X8_24 rfl rfl ?_
    refine g_iload_n (pc' := 29) 1 dX8_growToken_28 rfl rfl ?_
    refine g_iald (pc' := 30) dX8_growToken_29 rfl rfl (by omega) (by omega) (fun v4 ev4 rv4 => ?_)
    refine g_bipush (pc' := 32) (v := 10) dX8_growToken_30 rfl (by decide) ?_
    refine g_imul (pc' := 33) dX8_growToken_32 rfl ?_
    refine g_aload_n (pc' := 34) 0 dX8_growToken_33 rfl rfl ?_
    refine g_getR (pc' := 37) dX8_growToken_34 rfl f_X8_9 rfl rfl ?_
    refine g_iload_n (pc' := 38) 2 dX8_growToken_37 rfl rfl ?_
    refine g_iald (pc' := 39) dX8_growToken_38 rfl rfl (by omega) (by omega) (fun v5 ev5 rv5 => ?_)
    refine g_iadd (pc' := 40) dX8_growToken_39 rfl ?_
    refine g_bipush (pc' := 42) (v := 48) dX8_growToken_40 rfl (by decide) ?_
    refine g_isub (pc' := 43) dX8_growToken_42 rfl ?_
    refine g_nrmI (fun n6 rn6 en6 => ?_)
    have bn6 : (-2147483648 ≤ ((v4 * 10) + v5) - 48 ∧ ((v4 * 10) + v5) - 48 ≤ 2147483647) → n6 = ((v4 * 10) + v5) - 48 := fun h => en6.trans (bm32 h)
    refine g_sipush (pc' := 46) (v := 1001) dX8_growToken_43 rfl (by decide) ?_
    refine g_mmin (pc' := 49) dX8_growToken_46 rfl m_X8_52 ms_min mi_Math mc_min (by decide) (Nat.le_of_ble_eq_true rfl) rn6 (by decide) ?_
    obtain ⟨v7, ev7⟩ : ∃ z : Int, z = if 1001 < n6 then 1001 else n6 := ⟨_, rfl⟩
    rw [← ev7]
    refine g_iast (pc' := 50) dX8_growToken_49 rfl rfl (by omega) (by omega) ⟨by omega, by omega⟩ (fun M8 hM8 => ?_)
    have iM8 : IC M8 := IC.wr iM1 hM8 (by unfold okw isT; first | decide | omega)
    have fM8 : Fr (fun c => c = 35 ∨ c = 36) M M8 := Fr.wr fM1 hM8 (by first | decide | omega | (dsimp only; omega))
    have q31_1_M8 : id (M8 31 1 = M 31 1) := (show M8 31 1 = M1 31 1 by rw [hM8]; exact mu_ne _ _ (by first | decide | omega)).trans q31_1_M1
    have q31_7_M8 : id (M8 31 7 = M 31 7) := (show M8 31 7 = M1 31 7 by rw [hM8]; exact mu_ne _ _ (by first | decide | omega)).trans q31_7_M1
    have q31_6_M8 : id (M8 31 6 = M 31 6) := (show M8 31 6 = M1 31 6 by rw [hM8]; exact mu_ne _ _ (by first | decide | omega)).trans q31_6_M1
    refine g_vreturn dX8_growToken_50 ?_
    exact ⟨iM8, fM8, q31_1_M8, q31_7_M8, q31_6_M8⟩
set_option maxHeartbeats 4000000 in
set_option maxRecDepth 100000 in
theorem l_X8_cut_12 (X : Cx) (M : Mm) (hi : IC M) : ∀ (kk : Nat) (p : Int) (M1 : Mm) (ic1 : IC M1) (fr1 : Fr (fun c => 31 ≤ c ∧ c ≤ 36) M M1) (q31_1 : id (M1 31 1 = M 31 1)) (p0 : 0 ≤ p) (p1 : p ≤ 400) (t0 : 0 ≤ M1 31 6) (t1 : M1 31 6 ≤ p), (401 - p).toNat = kk → G X 2 RX8 cX8_cut 2 none (Qv (fun M1 => IC M1 ∧ Fr (fun c => 31 ≤ c ∧ c ≤ 36) M M1 ∧ M1 31 1 = M 31 1)) 12 [(1, vi p), (0, vr X 31)] [] M1 := by
  intro kk
  induction kk using Nat.strongRecOn with
  | ind kk ih =>
    intro p M1 ic1 fr1 q31_1 p0 p1 t0 t1 hmes
    refine g_iload_n (pc' := 13) 0 dX8_cut_12 rfl rfl ?_
    refine g_aload_n (pc' := 14) 1 dX8_cut_13 rfl rfl ?_
    refine g_getI (pc' := 17) dX8_cut_14 rfl f_X8_27 rfl rfl (fun v1 ev1 rv1 => ?_)
    have bv1 : 0 ≤ v1 ∧ v1 ≤ 400 := by rw [ev1]; exact ic1.2.2.1.1
    have av1 : v1 = M 31 1 := ev1.trans q31_1
    refine g_ic_ge (pc' := 20) (tgt := 77) ⟨by omega, by omega⟩ rv1 dX8_cut_17 rfl rfl (fun c2 => ?_) (fun c2 => ?_)
    · refine g_aload_n (pc' := 78) 1 dX8_cut_77 rfl rfl ?_
      refine g_aload_n (pc' := 79) 1 dX8_cut_78 rfl rfl ?_
      refine g_getI (pc' := 82) dX8_cut_79 rfl f_X8_27 rfl rfl (fun v3 ev3 rv3 => ?_)
      obtain rfl : v1 = v3 := ev1.trans ev3.symm
      refine g_iconst (pc' := 83) dX8_cut_82 rfl ?_
      refine g_callVv (pc' := 86) (As := [vi v1, vi 0]) (b := 31) (S := []) dX8_cut_83 rfl m_X8_45 w_X8_beginToken (c_X8_beginToken X M1 ic1 v1 rv1 0 (by decide) (by omega) (by omega) (by omega)) rfl ⟨_, _, _, rfl, rfl, rfl⟩ (by decide) (by decide) rfl (Nat.le_of_ble_eq_true rfl) (fun M5 q4 => ?_)
      obtain ⟨iM5, fM50, eM5_31_1, eM5_31_7, pM5⟩ := q4
      have fM5 : Fr (fun c => 31 ≤ c ∧ c ≤ 36) M M5 := Fr.tr fr1 fM50 (fun _ z => z)
      have q31_1_M5 : id (M5 31 1 = M 31 1) := eM5_31_1.trans q31_1
      clear eM5_31_1
      refine g_vreturn dX8_cut_86 ?_
      exact ⟨iM5, fM5, q31_1_M5⟩
    · refine g_aload_n (pc' := 21) 1 dX8_cut_20 rfl rfl ?_
      refine g_iload_n (pc' := 22) 0 dX8_cut_21 rfl rfl ?_
      refine g_callVip (pc' := 25) (As := [vi p]) (b := 31) (S := []) dX8_cut_22 rfl m_X8_37 w_X8_isFirstOfToken (c_X8_isFirstOfToken X M1 ic1 p ⟨by omega, by omega⟩ ⟨by omega, by omega⟩) rfl ⟨_, _, _, rfl, rfl, rfl⟩ (by decide) (by decide) rfl (Nat.le_of_ble_eq_true rfl) (fun z7 q6 => ?_)
      refine g_if_eq (pc' := 28) (tgt := 42) ⟨by omega, by omega⟩ dX8_cut_25 rfl rfl (fun c8 => ?_) (fun c8 => ?_)
      · refine g_aload_n (pc' := 43) 1 dX8_cut_42 rfl rfl ?_
        refine g_getR (pc' := 46) dX8_cut_43 rfl f_X8_9 rfl rfl ?_
        refine g_iload_n (pc' := 47) 0 dX8_cut_46 rfl rfl ?_
        refine g_iald (pc' := 48) dX8_cut_47 rfl rfl (by omega) (by omega) (fun v9 ev9 rv9 => ?_)
        refine g_bipush (pc' := 50) (v := 32) dX8_cut_48 rfl (by decide) ?_
        refine g_ic_eq (pc' := 53) (tgt := 71) rv9 (by decide) dX8_cut_50 rfl rfl (fun c10 => ?_) (fun c10 => ?_)
        · refine g_iinc (pc' := 74) (L' := [(1, vi (p + 1)), (0, vr X 31)]) 0 dX8_cut_71 rfl rfl (by decide) rfl ?_
          refine g_goto (tgt := 12) dX8_cut_74 rfl ?_
          refine g_sub [0, 1] rfl ?_
          exact ih _ (by omega) (p + 1) M1 ic1 fr1 q31_1 (by omega) (by omega) (by omega) (by omega) rfl
        · refine g_aload_n (pc' := 54) 1 dX8_cut_53 rfl rfl ?_
          refine g_getI (pc' := 57) dX8_cut_54 rfl f_X8_31 rfl rfl (fun v11 ev11 rv11 => ?_)
          refine g_if_le (pc' := 60) (tgt := 71) rv11 dX8_cut_57 rfl rfl (fun c12 => ?_) (fun c12 => ?_)
          · refine g_iinc (pc' := 74) (L' := [(1, vi (p + 1)), (0, vr X 31)]) 0 dX8_cut_71 rfl rfl (by decide) rfl ?_
            refine g_goto (tgt := 12) dX8_cut_74 rfl ?_
            refine g_sub [0, 1] rfl ?_
            exact ih _ (by omega) (p + 1) M1 ic1 fr1 q31_1 (by omega) (by omega) (by omega) (by omega) rfl
          · refine g_aload_n (pc' := 61) 1 dX8_cut_60 rfl rfl ?_
            refine g_aload_n (pc' := 62) 1 dX8_cut_61 rfl rfl ?_
            refine g_getI (pc' := 65) dX8_cut_62 rfl f_X8_31 rfl rfl (fun v13 ev13 rv13 => ?_)
            obtain rfl : v11 = v13 := ev11.trans ev13.symm
            refine g_iconst (pc' := 66) dX8_cut_65 rfl ?_
            refine g_isub (pc' := 67) dX8_cut_66 rfl ?_
            refine g_iload_n (pc' := 68) 0 dX8_cut_67 rfl rfl ?_
            refine g_callVv (pc' := 71) (As := [vi (v11 - 1), vi p]) (b := 31) (S := []) dX8_cut_68 rfl m_X8_49 w_X8_growToken (c_X8_growToken X M1 ic1 (v11 - 1) ⟨by omega, by omega⟩ p ⟨by omega, by omega⟩ (by omega) (by omega)) rfl ⟨_, _, _, rfl, rfl, rfl⟩ (by decide) (by decide) rfl (Nat.le_of_ble_eq_true rfl) (fun M15 q14 => ?_)
            obtain ⟨iM15, fM150, eM15_31_1, eM15_31_7, eM15_31_6⟩ := q14
            have fM15 : Fr (fun c => 31 ≤ c ∧ c ≤ 36) M M15 := Fr.tr fr1 fM150 fi_0
            have q31_1_M15 : id (M15 31 1 = M 31 1) := eM15_31_1.trans q31_1
            clear eM15_31_1
            refine g_iinc (pc' := 74) (L' := [(1, vi (p + 1)), (0, vr X 31)]) 0 dX8_cut_71 rfl rfl (by decide) rfl ?_
            refine g_goto (tgt := 12) dX8_cut_74 rfl ?_
            refine g_sub [0, 1] rfl ?_
            exact ih _ (by omega) (p + 1) M15 iM15 fM15 q31_1_M15 (by omega) (by omega) (by omega) (by omega) rfl
      · refine g_aload_n (pc' := 29) 1 dX8_cut_28 rfl rfl ?_
        refine g_iload_n (pc' := 30) 0 dX8_cut_29 rfl rfl ?_
        refine g_aload_n (pc' := 31) 1 dX8_cut_30 rfl rfl ?_
        refine g_getR (pc' := 34) dX8_cut_31 rfl f_X8_9 rfl rfl ?_
        refine g_iload_n (pc' := 35) 0 dX8_cut_34 rfl rfl ?_
        refine g_iald (pc' := 36) dX8_cut_35 rfl rfl (by omega) (by omega) (fun v16 ev16 rv16 => ?_)
        refine g_callSip (pc' := 39) (As := [vi v16]) (S := [vi p, vr X 31]) dX8_cut_36 rfl m_X8_41 w_X8_kindOf (c_X8_kindOf X M1 v16 rv16) rfl (by decide) (by decide) rfl (Nat.le_of_ble_eq_true rfl) (fun z18 q17 => ?_)
        refine g_callVv (pc' := 42) (As := [vi p, vi z18]) (b := 31) (S := []) dX8_cut_39 rfl m_X8_45 w_X8_beginToken (c_X8_beginToken X M1 ic1 p ⟨by omega, by omega⟩ z18 ⟨by omega, by omega⟩ (by omega) (by omega) (by omega)) rfl ⟨_, _, _, rfl, rfl, rfl⟩ (by decide) (by decide) rfl (Nat.le_of_ble_eq_true rfl) (fun M20 q19 => ?_)
        obtain ⟨iM20, fM200, eM20_31_1, eM20_31_7, pM20⟩ := q19
        have fM20 : Fr (fun c => 31 ≤ c ∧ c ≤ 36) M M20 := Fr.tr fr1 fM200 (fun _ z => z)
        have q31_1_M20 : id (M20 31 1 = M 31 1) := eM20_31_1.trans q31_1
        clear eM20_31_1
        refine g_aload_n (pc' := 43) 1 dX8_cut_42 rfl rfl ?_
        refine g_getR (pc' := 46) dX8_cut_43 rfl f_X8_9 rfl rfl ?_
        refine g_iload_n (pc' := 47) 0 dX8_cut_46 rfl rfl ?_
        refine g_iald (pc' := 48) dX8_cut_47 rfl rfl (by omega) (by omega) (fun v21 ev21 rv21 => ?_)
        refine g_bipush (pc' := 50) (v := 32) dX8_cut_48 rfl (by decide) ?_
        refine g_ic_eq (pc' := 53) (tgt := 71) rv21 (by decide) dX8_cut_50 rfl rfl (fun c22 => ?_) (fun c22 => ?_)
        · refine g_iinc (pc' := 74) (L' := [(1, vi (p + 1)), (0, vr X 31)]) 0 dX8_cut_71 rfl rfl (by decide) rfl ?_
          refine g_goto (tgt := 12) dX8_cut_74 rfl ?_
          refine g_sub [0, 1] rfl ?_
          exact ih _ (by omega) (p + 1) M20 iM20 fM20 q31_1_M20 (by omega) (by omega) (by omega) (by omega) rfl
        · refine g_aload_n (pc' := 54) 1 dX8_cut_53 rfl rfl ?_
          refine g_getI (pc' := 57) dX8_cut_54 rfl f_X8_31 rfl rfl (fun v23 ev23 rv23 => ?_)
          refine g_if_le (pc' := 60) (tgt := 71) rv23 dX8_cut_57 rfl rfl (fun c24 => ?_) (fun c24 => ?_)
          · refine g_iinc (pc' := 74) (L' := [(1, vi (p + 1)), (0, vr X 31)]) 0 dX8_cut_71 rfl rfl (by decide) rfl ?_
            refine g_goto (tgt := 12) dX8_cut_74 rfl ?_
            refine g_sub [0, 1] rfl ?_
            exact ih _ (by omega) (p + 1) M20 iM20 fM20 q31_1_M20 (by omega) (by omega) (by omega) (by omega) rfl
          · refine g_aload_n (pc' := 61) 1 dX8_cut_60 rfl rfl ?_
            refine g_aload_n (pc' := 62) 1 dX8_cut_61 rfl rfl ?_
            refine g_getI (pc' := 65) dX8_cut_62 rfl f_X8_31 rfl rfl (fun v25 ev25 rv25 => ?_)
            obtain rfl : v23 = v25 := ev23.trans ev25.symm
            refine g_iconst (pc' := 66) dX8_cut_65 rfl ?_
            refine g_isub (pc' := 67) dX8_cut_66 rfl ?_
            refine g_iload_n (pc' := 68) 0 dX8_cut_67 rfl rfl ?_
            refine g_callVv (pc' := 71) (As := [vi (v23 - 1), vi p]) (b := 31) (S := []) dX8_cut_68 rfl m_X8_49 w_X8_growToken (c_X8_growToken X M20 iM20 (v23 - 1) ⟨by omega, by omega⟩ p ⟨by omega, by omega⟩ (by omega) (by omega)) rfl ⟨_, _, _, rfl, rfl, rfl⟩ (by decide) (by decide) rfl (Nat.le_of_ble_eq_true rfl) (fun M27 q26 => ?_)
            obtain ⟨iM27, fM270, eM27_31_1, eM27_31_7, eM27_31_6⟩ := q26
            have fM27 : Fr (fun c => 31 ≤ c ∧ c ≤ 36) M M27 := Fr.tr fM20 fM270 fi_0
            have q31_1_M27 : id (M27 31 1 = M 31 1) := eM27_31_1.trans q31_1_M20
            clear eM27_31_1
            refine g_iinc (pc' := 74) (L' := [(1, vi (p + 1)), (0, vr X 31)]) 0 dX8_cut_71 rfl rfl (by decide) rfl ?_
            refine g_goto (tgt := 12) dX8_cut_74 rfl ?_
            refine g_sub [0, 1] rfl ?_
            exact ih _ (by omega) (p + 1) M27 iM27 fM27 q31_1_M27 (by omega) (by omega) (by omega) (by omega) rfl
set_option maxHeartbeats 4000000 in
set_option maxRecDepth 100000 in
theorem c_X8_cut (X : Cx) (M : Mm) (hi : IC M) : Con X 2 yX8_cut cX8_cut 2 none [vr X 31] M (Qv (fun M1 => IC M1 ∧ Fr (fun c => 31 ≤ c ∧ c ≤ 36) M M1 ∧ M1 31 1 = M 31 1)) := by
  refine Con.ofG rfl (Nat.le_of_ble_eq_true rfl) ?_
  show G X 2 RX8 cX8_cut 2 none (Qv (fun M1 => IC M1 ∧ Fr (fun c => 31 ≤ c ∧ c ≤ 36) M M1 ∧ M1 31 1 = M 31 1)) 0 [(0, vr X 31)] [] M
  refine g_aload_n (pc' := 1) 0 dX8_cut_0 rfl rfl ?_
  refine g_iconst (pc' := 2) dX8_cut_1 rfl ?_
  refine g_putI (pc' := 5) dX8_cut_2 rfl p_X8_31 rfl rfl (by decide) (fun M1 hM1 => ?_)
  have iM1 : IC M1 := IC.wr hi hM1 (by unfold okw isT; first | decide | omega)
  have fM1 : Fr (fun c => 31 ≤ c ∧ c ≤ 36) M M1 := Fr.wr Fr.rf hM1 (by first | decide | omega | (dsimp only; omega))
  have q31_1_M1 : id (M1 31 1 = M 31 1) := (show M1 31 1 = M 31 1 by rw [hM1]; exact mu_ne _ _ (by first | decide | omega))
  have xM1_31_6 : M1 31 6 = 0 := by rw [hM1]; exact mu_at _ _ _ _
  refine g_aload_n (pc' := 6) 0 dX8_cut_5 rfl rfl ?_
  refine g_iconst (pc' := 7) dX8_cut_6 rfl ?_
  refine g_putI (pc' := 10) dX8_cut_7 rfl p_X8_34 rfl rfl (by decide) (fun M2 hM2 => ?_)
  have iM2 : IC M2 := IC.wr iM1 hM2 (by unfold okw isT; first | decide | omega)
  have fM2 : Fr (fun c => 31 ≤ c ∧ c ≤ 36) M M2 := Fr.wr fM1 hM2 (by first | decide | omega | (dsimp only; omega))
  have q31_1_M2 : id (M2 31 1 = M 31 1) := (show M2 31 1 = M1 31 1 by rw [hM2]; exact mu_ne _ _ (by first | decide | omega)).trans q31_1_M1
  have xM2_31_6 : M2 31 6 = 0 := (show M2 31 6 = M1 31 6 by rw [hM2]; exact mu_ne _ _ (by first | decide | omega)).trans xM1_31_6
  have xM2_31_7 : M2 31 7 = 0 := by rw [hM2]; exact mu_at _ _ _ _
  refine g_iconst (pc' := 11) dX8_cut_10 rfl ?_
  refine g_istore_n (pc' := 12) (i := 1) (L' := [(1, vi 0), (0, vr X 31)]) dX8_cut_11 rfl rfl (by decide) rfl ?_
  refine g_sub [0, 1] rfl ?_
  exact l_X8_cut_12 X M hi _ 0 M2 iM2 fM2 q31_1_M2 (by omega) (by omega) (by omega) (by omega) rfl
