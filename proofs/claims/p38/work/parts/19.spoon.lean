set_option maxHeartbeats 4000000 in
set_option maxRecDepth 100000 in
theorem c_X9_fault (X : Cx) (M : Mm) (hi : IC M) : Con X 10 yX9_fault cX9_fault 1 (some .int) [vr X 0] M (Qi (fun r M1 => M1 = M ∧ (inI r))) := by
  refine Con.ofG rfl (Nat.le_of_ble_eq_true rfl) ?_
  show G X 10 RX9 cX9_fault 1 (some .int) (Qi (fun r M1 => M1 = M ∧ (inI r))) 0 [(0, vr X 0)] [] M
  refine g_aload_n (pc' := 1) 0 dX9_fault_0 rfl rfl ?_
  refine g_getI (pc' := 4) dX9_fault_1 rfl f_X9_68 rfl rfl (fun v1 ev1 rv1 => ?_)
  refine g_ireturn dX9_fault_4 ?_
  exact ⟨rfl, by first | assumption | decide | omega⟩
set_option maxHeartbeats 4000000 in
set_option maxRecDepth 100000 in
theorem c_X9_both (X : Cx) (M : Mm) (hi : IC M) (a : Int) (ha : inI a) (b : Int) (hb : inI b) (c : Int) (hc : inI c) (w : Int) (hw : inI w) : Con X 10 yX9_both cX9_both 5 (some .long) [vr X 0, vi a, vi b, vi c, vi w] M (Ql (fun r M1 => M1 = M ∧ (inL r))) := by
  refine Con.ofG rfl (Nat.le_of_ble_eq_true rfl) ?_
  show G X 10 RX9 cX9_both 5 (some .long) (Ql (fun r M1 => M1 = M ∧ (inL r))) 0 [(0, vr X 0), (1, vi a), (2, vi b), (3, vi c), (4, vi w)] [] M
  refine g_iload_n (pc' := 1) 1 dX9_both_0 rfl rfl ?_
  refine g_iload_n (pc' := 2) 2 dX9_both_1 rfl rfl ?_
  refine g_callSip (pc' := 5) (As := [vi a, vi b]) (S := []) dX9_both_2 rfl m_X9_187 w_X9_isBoth (c_X9_isBoth X M a ha b hb) rfl (by decide) (by decide) rfl (Nat.le_of_ble_eq_true rfl) (fun z2 q1 => ?_)
  refine g_if_eq (pc' := 8) (tgt := 18) ⟨by omega, by omega⟩ dX9_both_5 rfl rfl (fun c3 => ?_) (fun c3 => ?_)
  · replace q1 := q1.resolve_left (fun h => absurd (c3.symm.trans h.1) (by decide))
    refine g_ldc2 (pc' := 21) (v := (-1)) dX9_both_18 rfl k_X9_104 ?_
    refine g_lreturn dX9_both_21 ?_
    exact ⟨rfl, by first | assumption | decide | omega⟩
  · replace q1 := q1.resolve_right (fun h => c3 h.1)
    refine g_iload_n (pc' := 9) 3 dX9_both_8 rfl rfl ?_
    refine g_iconst (pc' := 10) dX9_both_9 rfl ?_
    refine g_bipush (pc' := 12) (v := 6) dX9_both_10 rfl (by decide) ?_
    refine g_callSip (pc' := 15) (As := [vi c, vi 0, vi 6]) (S := []) dX9_both_12 rfl m_X9_191 w_X9_isWithin (c_X9_isWithin X M c hc 0 (by decide) 6 (by decide)) rfl (by decide) (by decide) rfl (Nat.le_of_ble_eq_true rfl) (fun z5 q4 => ?_)
    refine g_if_ne (pc' := 18) (tgt := 22) ⟨by omega, by omega⟩ dX9_both_15 rfl rfl (fun c6 => ?_) (fun c6 => ?_)
    · replace q4 := q4.resolve_right (fun h => c6 h.1)
      refine g_iload_n (pc' := 23) 1 dX9_both_22 rfl rfl ?_
      refine g_iload_n (pc' := 24) 2 dX9_both_23 rfl rfl ?_
      refine g_isub (pc' := 25) dX9_both_24 rfl ?_
      refine g_iload_n (pc' := 26) 1 dX9_both_25 rfl rfl ?_
      refine g_iload_n (pc' := 27) 2 dX9_both_26 rfl rfl ?_
      refine g_iadd (pc' := 28) dX9_both_27 rfl ?_
      refine g_iload_n (pc' := 29) 3 dX9_both_28 rfl rfl ?_
      refine g_iload (pc' := 31) 4 dX9_both_29 rfl rfl ?_
      refine g_callSlp (pc' := 34) (As := [vi (a - b), vi (a + b), vi c, vi w]) (S := []) dX9_both_31 rfl m_X9_194 w_X9_powerTerm (c_X9_powerTerm X M (a - b) ⟨by omega, by omega⟩ (a + b) ⟨by omega, by omega⟩ c hc w hw) rfl (by decide) (by decide) rfl (Nat.le_of_ble_eq_true rfl) (fun z8 q7 => ?_)
      refine g_lreturn dX9_both_34 ?_
      exact ⟨rfl, by first | assumption | decide | omega⟩
    · replace q4 := q4.resolve_left (fun h => absurd (c6.symm.trans h.1) (by decide))
      refine g_ldc2 (pc' := 21) (v := (-1)) dX9_both_18 rfl k_X9_104 ?_
      refine g_lreturn dX9_both_21 ?_
      exact ⟨rfl, by first | assumption | decide | omega⟩
set_option maxHeartbeats 4000000 in
set_option maxRecDepth 100000 in
theorem l_X9_rounds_23 (X : Cx) (M : Mm) (hi : IC M) (a : Int) (ha : inI a) (b : Int) (hb : inI b) (c : Int) (hc : inI c) : ∀ (kk : Nat) (i : Int) (h0 : 0 ≤ i) (h1 : i ≤ 7) (k1 : 1 ≤ a ∧ a ≤ 60 ∧ 1 ≤ b ∧ b ≤ a - 1), (7 - i).toNat = kk → G X 10 RX9 cX9_rounds 5 (some .int) (Qi (fun r M1 => M1 = M ∧ (inI r))) 23 [(4, vi i), (0, vr X 0), (1, vi a), (2, vi b), (3, vi c)] [] M := by
  intro kk
  induction kk using Nat.strongRecOn with
  | ind kk ih =>
    intro i h0 h1 k1 hmes
    refine g_iload (pc' := 25) 0 dX9_rounds_23 rfl rfl ?_
    refine g_bipush (pc' := 27) (v := 6) dX9_rounds_25 rfl (by decide) ?_
    refine g_ic_gt (pc' := 30) (tgt := 68) ⟨by omega, by omega⟩ (by decide) dX9_rounds_27 rfl rfl (fun c1 => ?_) (fun c1 => ?_)
    · refine g_iconst (pc' := 69) dX9_rounds_68 rfl ?_
      refine g_ireturn dX9_rounds_69 ?_
      exact ⟨rfl, by first | assumption | decide | omega⟩
    · refine g_ldc2 (pc' := 33) (v := 100) dX9_rounds_30 rfl k_X9_198 ?_
      refine g_iload_n (pc' := 34) 2 dX9_rounds_33 rfl rfl ?_
      refine g_iload_n (pc' := 35) 3 dX9_rounds_34 rfl rfl ?_
      refine g_isub (pc' := 36) dX9_rounds_35 rfl ?_
      refine g_i2l (pc' := 37) ⟨by omega, by omega⟩ dX9_rounds_36 rfl ?_
      refine g_iload (pc' := 39) 0 dX9_rounds_37 rfl rfl ?_
      refine g_callSlp (pc' := 42) (As := [vl (a - b), vi i]) (S := [vl 100]) dX9_rounds_39 rfl m_X9_200 w_X9_power (c_X9_power X M (a - b) ⟨by omega, by omega⟩ i ⟨by omega, by omega⟩) rfl (by decide) (by decide) rfl (Nat.le_of_ble_eq_true rfl) (fun z3 q2 => ?_)
      refine g_lmul (pc' := 43) dX9_rounds_42 rfl ?_
      refine g_nrmL (fun n4 rn4 en4 => ?_)
      refine g_iload_n (pc' := 44) 4 dX9_rounds_43 rfl rfl ?_
      refine g_i2l (pc' := 45) hc dX9_rounds_44 rfl ?_
      refine g_iload_n (pc' := 46) 2 dX9_rounds_45 rfl rfl ?_
      refine g_iload_n (pc' := 47) 3 dX9_rounds_46 rfl rfl ?_
      refine g_iadd (pc' := 48) dX9_rounds_47 rfl ?_
      refine g_i2l (pc' := 49) ⟨by omega, by omega⟩ dX9_rounds_48 rfl ?_
      refine g_iload (pc' := 51) 0 dX9_rounds_49 rfl rfl ?_
      refine g_callSlp (pc' := 54) (As := [vl (a + b), vi i]) (S := [vl c, vl n4]) dX9_rounds_51 rfl m_X9_200 w_X9_power (c_X9_power X M (a + b) ⟨by omega, by omega⟩ i ⟨by omega, by omega⟩) rfl (by decide) (by decide) rfl (Nat.le_of_ble_eq_true rfl) (fun z6 q5 => ?_)
      refine g_lmul (pc' := 55) dX9_rounds_54 rfl ?_
      refine g_nrmL (fun n7 rn7 en7 => ?_)
      refine g_lc_gt (pc' := 59) (tgt := 62) rn4 rn7 dX9_rounds_55 dX9_rounds_56 rfl rfl (fun c8 => ?_) (fun c8 => ?_)
      · refine g_iinc (pc' := 65) (L' := [(4, vi (i + 1)), (0, vr X 0), (1, vi a), (2, vi b), (3, vi c)]) 0 dX9_rounds_62 rfl rfl (by decide) rfl ?_
        refine g_goto (tgt := 23) dX9_rounds_65 rfl ?_
        refine g_sub [0, 1, 2, 3, 4] rfl ?_
        exact ih _ (by omega) (i + 1) (by omega) (by omega) (by omega) rfl
      · refine g_iload (pc' := 61) 0 dX9_rounds_59 rfl rfl ?_
        refine g_ireturn dX9_rounds_61 ?_
        exact ⟨rfl, by first | assumption | decide | omega⟩
set_option maxHeartbeats 4000000 in
set_option maxRecDepth 100000 in
theorem c_X9_rounds (X : Cx) (M : Mm) (hi : IC M) (a : Int) (ha : inI a) (b : Int) (hb : inI b) (c : Int) (hc : inI c) : Con X 10 yX9_rounds cX9_rounds 5 (some .int) [vr X 0, vi a, vi b, vi c] M (Qi (fun r M1 => M1 = M ∧ (inI r))) := by
  refine Con.ofG rfl (Nat.le_of_ble_eq_true rfl) ?_
  show G X 10 RX9 cX9_rounds 5 (some .int) (Qi (fun r M1 => M1 = M ∧ (inI r))) 0 [(0, vr X 0), (1, vi a), (2, vi b), (3, vi c)] [] M
  refine g_iload_n (pc' := 1) 1 dX9_rounds_0 rfl rfl ?_
  refine g_iload_n (pc' := 2) 2 dX9_rounds_1 rfl rfl ?_
  refine g_callSip (pc' := 5) (As := [vi a, vi b]) (S := []) dX9_rounds_2 rfl m_X9_187 w_X9_isBoth (c_X9_isBoth X M a ha b hb) rfl (by decide) (by decide) rfl (Nat.le_of_ble_eq_true rfl) (fun z2 q1 => ?_)
  refine g_if_eq (pc' := 8) (tgt := 18) ⟨by omega, by omega⟩ dX9_rounds_5 rfl rfl (fun c3 => ?_) (fun c3 => ?_)
  · replace q1 := q1.resolve_left (fun h => absurd (c3.symm.trans h.1) (by decide))
    refine g_iconst (pc' := 19) dX9_rounds_18 rfl ?_
    refine g_ireturn dX9_rounds_19 ?_
    exact ⟨rfl, by first | assumption | decide | omega⟩
  · replace q1 := q1.resolve_right (fun h => c3 h.1)
    refine g_iload_n (pc' := 9) 3 dX9_rounds_8 rfl rfl ?_
    refine g_iconst (pc' := 10) dX9_rounds_9 rfl ?_
    refine g_bipush (pc' := 12) (v := 100) dX9_rounds_10 rfl (by decide) ?_
    refine g_callSip (pc' := 15) (As := [vi c, vi 0, vi 100]) (S := []) dX9_rounds_12 rfl m_X9_191 w_X9_isWithin (c_X9_isWithin X M c hc 0 (by decide) 100 (by decide)) rfl (by decide) (by decide) rfl (Nat.le_of_ble_eq_true rfl) (fun z5 q4 => ?_)
    refine g_if_ne (pc' := 18) (tgt := 20) ⟨by omega, by omega⟩ dX9_rounds_15 rfl rfl (fun c6 => ?_) (fun c6 => ?_)
    · replace q4 := q4.resolve_right (fun h => c6 h.1)
      refine g_iconst (pc' := 21) dX9_rounds_20 rfl ?_
      refine g_istore (pc' := 23) (L' := [(4, vi 0), (0, vr X 0), (1, vi a), (2, vi b), (3, vi c)]) dX9_rounds_21 rfl (by decide) rfl ?_
      refine g_sub [0, 1, 2, 3, 4] rfl ?_
      exact l_X9_rounds_23 X M hi a ha b hb c hc _ 0 (by omega) (by omega) (by omega) rfl
    · replace q4 := q4.resolve_left (fun h => absurd (c6.symm.trans h.1) (by decide))
      refine g_iconst (pc' := 19) dX9_rounds_18 rfl ?_
      refine g_ireturn dX9_rounds_19 ?_
      exact ⟨rfl, by first | assumption | decide | omega⟩
set_option maxHeartbeats 4000000 in
set_option maxRecDepth 100000 in
theorem l_X9_guests_23 (X : Cx) (M : Mm) (hi : IC M) (a : Int) (ha : inI a) (b : Int) (hb : inI b) (c : Int) (hc : inI c) : ∀ (kk : Nat) (i : Int) (h0 : 0 ≤ i) (h1 : i ≤ 7) (k1 : 1 ≤ a ∧ a ≤ 60 ∧ 0 ≤ b ∧ b ≤ a), (7 - i).toNat = kk → G X 10 RX9 cX9_guests 5 (some .int) (Qi (fun r M1 => M1 = M ∧ (inI r))) 23 [(4, vi i), (0, vr X 0), (1, vi a), (2, vi b), (3, vi c)] [] M := by
  intro kk
  induction kk using Nat.strongRecOn with
  | ind kk ih =>
    intro i h0 h1 k1 hmes
    refine g_iload (pc' := 25) 0 dX9_guests_23 rfl rfl ?_
    refine g_bipush (pc' := 27) (v := 6) dX9_guests_25 rfl (by decide) ?_
    refine g_ic_gt (pc' := 30) (tgt := 66) ⟨by omega, by omega⟩ (by decide) dX9_guests_27 rfl rfl (fun c1 => ?_) (fun c1 => ?_)
    · refine g_iconst (pc' := 67) dX9_guests_66 rfl ?_
      refine g_ireturn dX9_guests_67 ?_
      exact ⟨rfl, by first | assumption | decide | omega⟩
    · refine g_ldc2 (pc' := 33) (v := 100) dX9_guests_30 rfl k_X9_198 ?_
      refine g_iload_n (pc' := 34) 2 dX9_guests_33 rfl rfl ?_
      refine g_iload_n (pc' := 35) 3 dX9_guests_34 rfl rfl ?_
      refine g_isub (pc' := 36) dX9_guests_35 rfl ?_
      refine g_i2l (pc' := 37) ⟨by omega, by omega⟩ dX9_guests_36 rfl ?_
      refine g_iload (pc' := 39) 0 dX9_guests_37 rfl rfl ?_
      refine g_callSlp (pc' := 42) (As := [vl (a - b), vi i]) (S := [vl 100]) dX9_guests_39 rfl m_X9_200 w_X9_power (c_X9_power X M (a - b) ⟨by omega, by omega⟩ i ⟨by omega, by omega⟩) rfl (by decide) (by decide) rfl (Nat.le_of_ble_eq_true rfl) (fun z3 q2 => ?_)
      refine g_lmul (pc' := 43) dX9_guests_42 rfl ?_
      refine g_nrmL (fun n4 rn4 en4 => ?_)
      refine g_iload_n (pc' := 44) 4 dX9_guests_43 rfl rfl ?_
      refine g_i2l (pc' := 45) hc dX9_guests_44 rfl ?_
      refine g_iload_n (pc' := 46) 2 dX9_guests_45 rfl rfl ?_
      refine g_i2l (pc' := 47) ha dX9_guests_46 rfl ?_
      refine g_iload (pc' := 49) 0 dX9_guests_47 rfl rfl ?_
      refine g_callSlp (pc' := 52) (As := [vl a, vi i]) (S := [vl c, vl n4]) dX9_guests_49 rfl m_X9_200 w_X9_power (c_X9_power X M a ⟨by omega, by omega⟩ i ⟨by omega, by omega⟩) rfl (by decide) (by decide) rfl (Nat.le_of_ble_eq_true rfl) (fun z6 q5 => ?_)
      refine g_lmul (pc' := 53) dX9_guests_52 rfl ?_
      refine g_nrmL (fun n7 rn7 en7 => ?_)
      refine g_lc_ge (pc' := 57) (tgt := 60) rn4 rn7 dX9_guests_53 dX9_guests_54 rfl rfl (fun c8 => ?_) (fun c8 => ?_)
      · refine g_iinc (pc' := 63) (L' := [(4, vi (i + 1)), (0, vr X 0), (1, vi a), (2, vi b), (3, vi c)]) 0 dX9_guests_60 rfl rfl (by decide) rfl ?_
        refine g_goto (tgt := 23) dX9_guests_63 rfl ?_
        refine g_sub [0, 1, 2, 3, 4] rfl ?_
        exact ih _ (by omega) (i + 1) (by omega) (by omega) (by omega) rfl
      · refine g_iload (pc' := 59) 0 dX9_guests_57 rfl rfl ?_
        refine g_ireturn dX9_guests_59 ?_
        exact ⟨rfl, by first | assumption | decide | omega⟩
set_option maxHeartbeats 4000000 in
set_option maxRecDepth 100000 in
theorem c_X9_guests (X : Cx) (M : Mm) (hi : IC M) (a : Int) (ha : inI a) (b : Int) (hb : inI b) (c : Int) (hc : inI c) : Con X 10 yX9_guests cX9_guests 5 (some .int) [vr X 0, vi a, vi b, vi c] M (Qi (fun r M1 => M1 = M ∧ (inI r))) := by
  refine Con.ofG rfl (Nat.le_of_ble_eq_true rfl) ?_
  show G X 10 RX9 cX9_guests 5 (some .int) (Qi (fun r M1 => M1 = M ∧ (inI r))) 0 [(0, vr X 0), (1, vi a), (2, vi b), (3, vi c)] [] M
  refine g_iload_n (pc' := 1) 1 dX9_guests_0 rfl rfl ?_
  refine g_iload_n (pc' := 2) 2 dX9_guests_1 rfl rfl ?_
  refine g_callSip (pc' := 5) (As := [vi a, vi b]) (S := []) dX9_guests_2 rfl m_X9_237 w_X9_isCask (c_X9_isCask X M a ha b hb) rfl (by decide) (by decide) rfl (Nat.le_of_ble_eq_true rfl) (fun z2 q1 => ?_)
  refine g_if_eq (pc' := 8) (tgt := 18) ⟨by omega, by omega⟩ dX9_guests_5 rfl rfl (fun c3 => ?_) (fun c3 => ?_)
  · replace q1 := q1.resolve_left (fun h => absurd (c3.symm.trans h.1) (by decide))
    refine g_iconst (pc' := 19) dX9_guests_18 rfl ?_
    refine g_ireturn dX9_guests_19 ?_
    exact ⟨rfl, by first | assumption | decide | omega⟩
  · replace q1 := q1.resolve_right (fun h => c3 h.1)
    refine g_iload_n (pc' := 9) 3 dX9_guests_8 rfl rfl ?_
    refine g_iconst (pc' := 10) dX9_guests_9 rfl ?_
    refine g_bipush (pc' := 12) (v := 100) dX9_guests_10 rfl (by decide) ?_
    refine g_callSip (pc' := 15) (As := [vi c, vi 0, vi 100]) (S := []) dX9_guests_12 rfl m_X9_191 w_X9_isWithin (c_X9_isWithin X M c hc 0 (by decide) 100 (by decide)) rfl (by decide) (by decide) rfl (Nat.le_of_ble_eq_true rfl) (fun z5 q4 => ?_)
    refine g_if_ne (pc' := 18) (tgt := 20) ⟨by omega, by omega⟩ dX9_guests_15 rfl rfl (fun c6 => ?_) (fun c6 => ?_)
    · replace q4 := q4.resolve_right (fun h => c6 h.1)
      refine g_iconst (pc' := 21) dX9_guests_20 rfl ?_
      refine g_istore (pc' := 23) (L' := [(4, vi 0), (0, vr X 0), (1, vi a), (2, vi b), (3, vi c)]) dX9_guests_21 rfl (by decide) rfl ?_
      refine g_sub [0, 1, 2, 3, 4] rfl ?_
      exact l_X9_guests_23 X M hi a ha b hb c hc _ 0 (by omega) (by omega) (by omega) rfl
    · replace q4 := q4.resolve_left (fun h => absurd (c6.symm.trans h.1) (by decide))
      refine g_iconst (pc' := 19) dX9_guests_18 rfl ?_
      refine g_ireturn dX9_guests_19 ?_
      exact ⟨rfl, by first | assumption | decide | omega⟩
set_option maxHeartbeats 4000000 in
set_option maxRecDepth 100000 in
theorem c_X9_cask (X : Cx) (M : Mm) (hi : IC M) (a : Int) (ha : inI a) (b : Int) (hb : inI b) (c : Int) (hc : inI c) (w : Int) (hw : inI w) : Con X 10 yX9_cask cX9_cask 5 (some .long) [vr X 0, vi a, vi b, vi c, vi w] M (Ql (fun r M1 => M1 = M ∧ (inL r))) := by
  refine Con.ofG rfl (Nat.le_of_ble_eq_true rfl) ?_
  show G X 10 RX9 cX9_cask 5 (some .long) (Ql (fun r M1 => M1 = M ∧ (inL r))) 0 [(0, vr X 0), (1, vi a), (2, vi b), (3, vi c), (4, vi w)] [] M
  refine g_iload_n (pc' := 1) 1 dX9_cask_0 rfl rfl ?_
  refine g_iload_n (pc' := 2) 2 dX9_cask_1 rfl rfl ?_
  refine g_callSip (pc' := 5) (As := [vi a, vi b]) (S := []) dX9_cask_2 rfl m_X9_237 w_X9_isCask (c_X9_isCask X M a ha b hb) rfl (by decide) (by decide) rfl (Nat.le_of_ble_eq_true rfl) (fun z2 q1 => ?_)
  refine g_if_eq (pc' := 8) (tgt := 18) ⟨by omega, by omega⟩ dX9_cask_5 rfl rfl (fun c3 => ?_) (fun c3 => ?_)
  · replace q1 := q1.resolve_left (fun h => absurd (c3.symm.trans h.1) (by decide))
    refine g_ldc2 (pc' := 21) (v := (-1)) dX9_cask_18 rfl k_X9_104 ?_
    refine g_lreturn dX9_cask_21 ?_
    exact ⟨rfl, by first | assumption | decide | omega⟩
  · replace q1 := q1.resolve_right (fun h => c3 h.1)
    refine g_iload_n (pc' := 9) 3 dX9_cask_8 rfl rfl ?_
    refine g_iconst (pc' := 10) dX9_cask_9 rfl ?_
    refine g_bipush (pc' := 12) (v := 6) dX9_cask_10 rfl (by decide) ?_
    refine g_callSip (pc' := 15) (As := [vi c, vi 0, vi 6]) (S := []) dX9_cask_12 rfl m_X9_191 w_X9_isWithin (c_X9_isWithin X M c hc 0 (by decide) 6 (by decide)) rfl (by decide) (by decide) rfl (Nat.le_of_ble_eq_true rfl) (fun z5 q4 => ?_)
    refine g_if_ne (pc' := 18) (tgt := 22) ⟨by omega, by omega⟩ dX9_cask_15 rfl rfl (fun c6 => ?_) (fun c6 => ?_)
    · replace q4 := q4.resolve_right (fun h => c6 h.1)
      refine g_iload_n (pc' := 23) 1 dX9_cask_22 rfl rfl ?_
      refine g_iload_n (pc' := 24) 2 dX9_cask_23 rfl rfl ?_
      refine g_isub (pc' := 25) dX9_cask_24 rfl ?_
      refine g_iload_n (pc' := 26) 1 dX9_cask_25 rfl rfl ?_
      refine g_iload_n (pc' := 27) 3 dX9_cask_26 rfl rfl ?_
      refine g_iload (pc' := 29) 4 dX9_cask_27 rfl rfl ?_
      refine g_callSlp (pc' := 32) (As := [vi (a - b), vi a, vi c, vi w]) (S := []) dX9_cask_29 rfl m_X9_194 w_X9_powerTerm (c_X9_powerTerm X M (a - b) ⟨by omega, by omega⟩ a ha c hc w hw) rfl (by decide) (by decide) rfl (Nat.le_of_ble_eq_true rfl) (fun z8 q7 => ?_)
      refine g_lreturn dX9_cask_32 ?_
      exact ⟨rfl, by first | assumption | decide | omega⟩
    · replace q4 := q4.resolve_left (fun h => absurd (c6.symm.trans h.1) (by decide))
      refine g_ldc2 (pc' := 21) (v := (-1)) dX9_cask_18 rfl k_X9_104 ?_
      refine g_lreturn dX9_cask_21 ?_
      exact ⟨rfl, by first | assumption | decide | omega⟩
set_option maxHeartbeats 4000000 in
set_option maxRecDepth 100000 in
theorem c_X9_rinse (X : Cx) (M : Mm) (hi : IC M) (a : Int) (ha : inI a) (b : Int) (hb : inI b) (c : Int) (hc : inI c) (w : Int) (hw : inI w) : Con X 10 yX9_rinse cX9_rinse 11 (some .long) [vr X 0, vi a, vi b, vi c, vi w] M (Ql (fun r M1 => M1 = M ∧ (inL r))) := by
  refine Con.ofG rfl (Nat.le_of_ble_eq_true rfl) ?_
  show G X 10 RX9 cX9_rinse 11 (some .long) (Ql (fun r M1 => M1 = M ∧ (inL r))) 0 [(0, vr X 0), (1, vi a), (2, vi b), (3, vi c), (4, vi w)] [] M
  refine g_iload_n (pc' := 1) 1 dX9_rinse_0 rfl rfl ?_
  refine g_iconst (pc' := 2) dX9_rinse_1 rfl ?_
  refine g_bipush (pc' := 4) (v := 9) dX9_rinse_2 rfl (by decide) ?_
  refine g_callSip (pc' := 7) (As := [vi a, vi 1, vi 9]) (S := []) dX9_rinse_4 rfl m_X9_191 w_X9_isWithin (c_X9_isWithin X M a ha 1 (by decide) 9 (by decide)) rfl (by decide) (by decide) rfl (Nat.le_of_ble_eq_true rfl) (fun z2 q1 => ?_)
  refine g_if_eq (pc' := 10) (tgt := 20) ⟨by omega, by omega⟩ dX9_rinse_7 rfl rfl (fun c3 => ?_) (fun c3 => ?_)
  · replace q1 := q1.resolve_left (fun h => absurd (c3.symm.trans h.1) (by decide))
    refine g_ldc2 (pc' := 23) (v := (-1)) dX9_rinse_20 rfl k_X9_104 ?_
    refine g_lreturn dX9_rinse_23 ?_
    exact ⟨rfl, by first | assumption | decide | omega⟩
  · replace q1 := q1.resolve_right (fun h => c3 h.1)
    refine g_iload_n (pc' := 11) 2 dX9_rinse_10 rfl rfl ?_
    refine g_iconst (pc' := 12) dX9_rinse_11 rfl ?_
    refine g_bipush (pc' := 14) (v := 60) dX9_rinse_12 rfl (by decide) ?_
    refine g_callSip (pc' := 17) (As := [vi b, vi 0, vi 60]) (S := []) dX9_rinse_14 rfl m_X9_191 w_X9_isWithin (c_X9_isWithin X M b hb 0 (by decide) 60 (by decide)) rfl (by decide) (by decide) rfl (Nat.le_of_ble_eq_true rfl) (fun z5 q4 => ?_)
    refine g_if_ne (pc' := 20) (tgt := 24) ⟨by omega, by omega⟩ dX9_rinse_17 rfl rfl (fun c6 => ?_) (fun c6 => ?_)
    · replace q4 := q4.resolve_right (fun h => c6 h.1)
      refine g_iload_n (pc' := 25) 3 dX9_rinse_24 rfl rfl ?_
      refine g_iconst (pc' := 26) dX9_rinse_25 rfl ?_
      refine g_ic_lt (pc' := 29) (tgt := 47) hc (by decide) dX9_rinse_26 rfl rfl (fun c7 => ?_) (fun c7 => ?_)
      · refine g_ldc2 (pc' := 50) (v := (-1)) dX9_rinse_47 rfl k_X9_104 ?_
        refine g_lreturn dX9_rinse_50 ?_
        exact ⟨rfl, by first | assumption | decide | omega⟩
      · refine g_iload_n (pc' := 30) 3 dX9_rinse_29 rfl rfl ?_
        refine g_bipush (pc' := 32) (v := 6) dX9_rinse_30 rfl (by decide) ?_
        refine g_ic_gt (pc' := 35) (tgt := 47) hc (by decide) dX9_rinse_32 rfl rfl (fun c8 => ?_) (fun c8 => ?_)
        · refine g_ldc2 (pc' := 50) (v := (-1)) dX9_rinse_47 rfl k_X9_104 ?_
          refine g_lreturn dX9_rinse_50 ?_
          exact ⟨rfl, by first | assumption | decide | omega⟩
        · refine g_iload (pc' := 37) 4 dX9_rinse_35 rfl rfl ?_
          refine g_iconst (pc' := 38) dX9_rinse_37 rfl ?_
          refine g_iconst (pc' := 39) dX9_rinse_38 rfl ?_
          refine g_iload_n (pc' := 40) 3 dX9_rinse_39 rfl rfl ?_
          refine g_iadd (pc' := 41) dX9_rinse_40 rfl ?_
          refine g_callSip (pc' := 44) (As := [vi w, vi 0, vi (1 + c)]) (S := []) dX9_rinse_41 rfl m_X9_191 w_X9_isWithin (c_X9_isWithin X M w hw 0 (by decide) (1 + c) ⟨by omega, by omega⟩) rfl (by decide) (by decide) rfl (Nat.le_of_ble_eq_true rfl) (fun z10 q9 => ?_)
          refine g_if_ne (pc' := 47) (tgt := 51) ⟨by omega, by omega⟩ dX9_rinse_44 rfl rfl (fun c11 => ?_) (fun c11 => ?_)
          · replace q9 := q9.resolve_right (fun h => c11 h.1)
            refine g_iload_n (pc' := 52) 2 dX9_rinse_51 rfl rfl ?_
            refine g_iload_n (pc' := 53) 3 dX9_rinse_52 rfl rfl ?_
            refine g_idiv (pc' := 54) hb hc (by omega) dX9_rinse_53 rfl ?_
            refine g_nrmI (fun n12 rn12 en12 => ?_)
            have bn12 : (-2147483648 ≤ b.tdiv c ∧ b.tdiv c ≤ 2147483647) → n12 = b.tdiv c := fun h => en12.trans (bm32 h)
            refine g_istore (pc' := 56) (L' := [(5, vi n12), (0, vr X 0), (1, vi a), (2, vi b), (3, vi c), (4, vi w)]) dX9_rinse_54 rfl (by decide) rfl ?_
            refine g_iload_n (pc' := 57) 3 dX9_rinse_56 rfl rfl ?_
            refine g_iload_n (pc' := 58) 4 dX9_rinse_57 rfl rfl ?_
            refine g_irem (pc' := 59) hb hc (by omega) dX9_rinse_58 rfl ?_
            refine g_nrmI (fun n13 rn13 en13 => ?_)
            have bn13 : (-2147483648 ≤ b.tmod c ∧ b.tmod c ≤ 2147483647) → n13 = b.tmod c := fun h => en13.trans (bm32 h)
            refine g_istore (pc' := 61) (L' := [(6, vi n13), (5, vi n12), (0, vr X 0), (1, vi a), (2, vi b), (3, vi c), (4, vi w)]) dX9_rinse_59 rfl (by decide) rfl ?_
            refine g_iload (pc' := 63) 6 dX9_rinse_61 rfl rfl ?_
            refine g_iconst (pc' := 64) dX9_rinse_63 rfl ?_
            refine g_ic_lt (pc' := 67) (tgt := 90) hw (by decide) dX9_rinse_64 rfl rfl (fun c14 => ?_) (fun c14 => ?_)
            · refine g_iload_n (pc' := 91) 3 dX9_rinse_90 rfl rfl ?_
              refine g_i2l (pc' := 92) ha dX9_rinse_91 rfl ?_
              refine g_iload_n (pc' := 93) 5 dX9_rinse_92 rfl rfl ?_
              refine g_callSlp (pc' := 96) (As := [vl a, vi c]) (S := []) dX9_rinse_93 rfl m_X9_200 w_X9_power (c_X9_power X M a ⟨by omega, by omega⟩ c hc) rfl (by decide) (by decide) rfl (Nat.le_of_ble_eq_true rfl) (fun z16 q15 => ?_)
              refine g_lstore (pc' := 98) (L' := [(7, vl z16), (6, vi n13), (5, vi n12), (0, vr X 0), (1, vi a), (2, vi b), (3, vi c), (4, vi w)]) dX9_rinse_96 rfl (by decide) rfl ?_
              refine g_iload_n (pc' := 99) 4 dX9_rinse_98 rfl rfl ?_
              refine g_iload (pc' := 101) 2 dX9_rinse_99 rfl rfl ?_
              refine g_iadd (pc' := 102) dX9_rinse_101 rfl ?_
              refine g_nrmI (fun n17 rn17 en17 => ?_)
              have bn17 : (-2147483648 ≤ a + n12 ∧ a + n12 ≤ 2147483647) → n17 = a + n12 := fun h => en17.trans (bm32 h)
              refine g_i2l (pc' := 103) rn17 dX9_rinse_102 rfl ?_
              refine g_iload_n (pc' := 104) 6 dX9_rinse_103 rfl rfl ?_
              refine g_iload (pc' := 106) 1 dX9_rinse_104 rfl rfl ?_
              refine g_isub (pc' := 107) dX9_rinse_106 rfl ?_
              refine g_nrmI (fun n18 rn18 en18 => ?_)
              have bn18 : (-2147483648 ≤ c - n13 ∧ c - n13 ≤ 2147483647) → n18 = c - n13 := fun h => en18.trans (bm32 h)
              refine g_callSlp (pc' := 110) (As := [vl n17, vi n18]) (S := []) dX9_rinse_107 rfl m_X9_200 w_X9_power (c_X9_power X M n17 ⟨by omega, by omega⟩ n18 rn18) rfl (by decide) (by decide) rfl (Nat.le_of_ble_eq_true rfl) (fun z20 q19 => ?_)
              refine g_iload_n (pc' := 111) 4 dX9_rinse_110 rfl rfl ?_
              refine g_iload (pc' := 113) 2 dX9_rinse_111 rfl rfl ?_
              refine g_iadd (pc' := 114) dX9_rinse_113 rfl ?_
              refine g_nrmI (fun n21 rn21 en21 => ?_)
              have bn21 : (-2147483648 ≤ a + n12 ∧ a + n12 ≤ 2147483647) → n21 = a + n12 := fun h => en21.trans (bm32 h)
              refine g_iconst (pc' := 115) dX9_rinse_114 rfl ?_
              refine g_iadd (pc' := 116) dX9_rinse_115 rfl ?_
              refine g_nrmI (fun n22 rn22 en22 => ?_)
              have bn22 : (-2147483648 ≤ n21 + 1 ∧ n21 + 1 ≤ 2147483647) → n22 = n21 + 1 := fun h => en22.trans (bm32 h)
              refine g_i2l (pc' := 117) rn22 dX9_rinse_116 rfl ?_
              refine g_iload (pc' := 119) 1 dX9_rinse_117 rfl rfl ?_
              refine g_callSlp (pc' := 122) (As := [vl n22, vi n13]) (S := [vl z20]) dX9_rinse_119 rfl m_X9_200 w_X9_power (c_X9_power X M n22 ⟨by omega, by omega⟩ n13 rn13) rfl (by decide) (by decide) rfl (Nat.le_of_ble_eq_true rfl) (fun z24 q23 => ?_)
              refine g_lmul (pc' := 123) dX9_rinse_122 rfl ?_
              refine g_nrmL (fun n25 rn25 en25 => ?_)
              refine g_lstore (pc' := 125) (L' := [(9, vl n25), (7, vl z16), (6, vi n13), (5, vi n12), (0, vr X 0), (1, vi a), (2, vi b), (3, vi c), (4, vi w)]) dX9_rinse_123 rfl (by decide) rfl ?_
              refine g_lload (pc' := 127) 1 dX9_rinse_125 rfl rfl ?_
              refine g_lload (pc' := 129) 0 dX9_rinse_127 rfl rfl ?_
              refine g_iload (pc' := 131) 8 dX9_rinse_129 rfl rfl ?_
              refine g_callSlp (pc' := 134) (As := [vl z16, vl n25, vi w]) (S := []) dX9_rinse_131 rfl m_X9_240 w_X9_lowestTerm (c_X9_lowestTerm X M z16 ⟨by omega, by omega⟩ n25 rn25 w hw) rfl (by decide) (by decide) rfl (Nat.le_of_ble_eq_true rfl) (fun z27 q26 => ?_)
              refine g_lreturn dX9_rinse_134 ?_
              exact ⟨rfl, by first | assumption | decide | omega⟩
            · refine g_iload (pc' := 69) 6 dX9_rinse_67 rfl rfl ?_
              refine g_iconst (pc' := 70) dX9_rinse_69 rfl ?_
              refine g_isub (pc' := 71) dX9_rinse_70 rfl ?_
              refine g_iload_n (pc' := 72) 5 dX9_rinse_71 rfl rfl ?_
              refine g_iload (pc' := 74) 0 dX9_rinse_72 rfl rfl ?_
              refine g_isub (pc' := 75) dX9_rinse_74 rfl ?_
              refine g_nrmI (fun n28 rn28 en28 => ?_)
              have bn28 : (-2147483648 ≤ c - n13 ∧ c - n13 ≤ 2147483647) → n28 = c - n13 := fun h => en28.trans (bm32 h)
              refine g_ic_ge (pc' := 78) (tgt := 84) ⟨by omega, by omega⟩ rn28 dX9_rinse_75 rfl rfl (fun c29 => ?_) (fun c29 => ?_)
              · refine g_iload (pc' := 86) 1 dX9_rinse_84 rfl rfl ?_
                refine g_iconst (pc' := 87) dX9_rinse_86 rfl ?_
                refine g_iadd (pc' := 88) dX9_rinse_87 rfl ?_
                refine g_nrmI (fun n30 rn30 en30 => ?_)
                have bn30 : (-2147483648 ≤ n12 + 1 ∧ n12 + 1 ≤ 2147483647) → n30 = n12 + 1 := fun h => en30.trans (bm32 h)
                refine g_i2l (pc' := 89) rn30 dX9_rinse_88 rfl ?_
                refine g_lreturn dX9_rinse_89 ?_
                exact ⟨rfl, by first | assumption | decide | omega⟩
              · refine g_iload (pc' := 80) 1 dX9_rinse_78 rfl rfl ?_
                refine g_i2l (pc' := 81) rn12 dX9_rinse_80 rfl ?_
                refine g_goto (tgt := 89) dX9_rinse_81 rfl ?_
                refine g_lreturn dX9_rinse_89 ?_
                exact ⟨rfl, by first | assumption | decide | omega⟩
          · replace q9 := q9.resolve_left (fun h => absurd (c11.symm.trans h.1) (by decide))
            refine g_ldc2 (pc' := 50) (v := (-1)) dX9_rinse_47 rfl k_X9_104 ?_
            refine g_lreturn dX9_rinse_50 ?_
            exact ⟨rfl, by first | assumption | decide | omega⟩
    · replace q4 := q4.resolve_left (fun h => absurd (c6.symm.trans h.1) (by decide))
      refine g_ldc2 (pc' := 23) (v := (-1)) dX9_rinse_20 rfl k_X9_104 ?_
      refine g_lreturn dX9_rinse_23 ?_
      exact ⟨rfl, by first | assumption | decide | omega⟩
set_option maxHeartbeats 4000000 in
set_option maxRecDepth 100000 in
theorem c_X9_cards (X : Cx) (M : Mm) (hi : IC M) (a : Int) (ha : inI a) (b : Int) (hb : inI b) (c : Int) (hc : inI c) (j : Int) (hj : inI j) (w : Int) (hw : inI w) : Con X 10 yX9_cards cX9_cards 8 (some .long) [vr X 0, vi a, vi b, vi c, vi j, vi w] M (Ql (fun r M1 => M1 = M ∧ (inL r))) := by
  refine Con.ofG rfl (Nat.le_of_ble_eq_true rfl) ?_
  show G X 10 RX9 cX9_cards 8 (some .long) (Ql (fun r M1 => M1 = M ∧ (inL r))) 0 [(0, vr X 0), (1, vi a), (2, vi b), (3, vi c), (4, vi j), (5, vi w)] [] M
  refine g_iload_n (pc' := 1) 1 dX9_cards_0 rfl rfl ?_
  refine g_iconst (pc' := 2) dX9_cards_1 rfl ?_
  refine g_bipush (pc' := 4) (v := 20) dX9_cards_2 rfl (by decide) ?_
  refine g_callSip (pc' := 7) (As := [vi a, vi 0, vi 20]) (S := []) dX9_cards_4 rfl m_X9_191 w_X9_isWithin (c_X9_isWithin X M a ha 0 (by decide) 20 (by decide)) rfl (by decide) (by decide) rfl (Nat.le_of_ble_eq_true rfl) (fun z2 q1 => ?_)
  refine g_if_eq (pc' := 10) (tgt := 20) ⟨by omega, by omega⟩ dX9_cards_7 rfl rfl (fun c3 => ?_) (fun c3 => ?_)
  · replace q1 := q1.resolve_left (fun h => absurd (c3.symm.trans h.1) (by decide))
    refine g_ldc2 (pc' := 23) (v := (-1)) dX9_cards_20 rfl k_X9_104 ?_
    refine g_lreturn dX9_cards_23 ?_
    exact ⟨rfl, by first | assumption | decide | omega⟩
  · replace q1 := q1.resolve_right (fun h => c3 h.1)
    refine g_iload_n (pc' := 11) 2 dX9_cards_10 rfl rfl ?_
    refine g_iconst (pc' := 12) dX9_cards_11 rfl ?_
    refine g_bipush (pc' := 14) (v := 20) dX9_cards_12 rfl (by decide) ?_
    refine g_callSip (pc' := 17) (As := [vi b, vi 0, vi 20]) (S := []) dX9_cards_14 rfl m_X9_191 w_X9_isWithin (c_X9_isWithin X M b hb 0 (by decide) 20 (by decide)) rfl (by decide) (by decide) rfl (Nat.le_of_ble_eq_true rfl) (fun z5 q4 => ?_)
    refine g_if_ne (pc' := 20) (tgt := 24) ⟨by omega, by omega⟩ dX9_cards_17 rfl rfl (fun c6 => ?_) (fun c6 => ?_)
    · replace q4 := q4.resolve_right (fun h => c6 h.1)
      refine g_iload_n (pc' := 25) 3 dX9_cards_24 rfl rfl ?_
      refine g_iconst (pc' := 26) dX9_cards_25 rfl ?_
      refine g_iload_n (pc' := 27) 1 dX9_cards_26 rfl rfl ?_
      refine g_callSip (pc' := 30) (As := [vi c, vi 0, vi a]) (S := []) dX9_cards_27 rfl m_X9_191 w_X9_isWithin (c_X9_isWithin X M c hc 0 (by decide) a ha) rfl (by decide) (by decide) rfl (Nat.le_of_ble_eq_true rfl) (fun z8 q7 => ?_)
      refine g_if_eq (pc' := 33) (tgt := 53) ⟨by omega, by omega⟩ dX9_cards_30 rfl rfl (fun c9 => ?_) (fun c9 => ?_)
      · replace q7 := q7.resolve_left (fun h => absurd (c9.symm.trans h.1) (by decide))
        refine g_ldc2 (pc' := 56) (v := (-1)) dX9_cards_53 rfl k_X9_104 ?_
        refine g_lreturn dX9_cards_56 ?_
        exact ⟨rfl, by first | assumption | decide | omega⟩
      · replace q7 := q7.resolve_right (fun h => c9 h.1)
        refine g_iload (pc' := 35) 4 dX9_cards_33 rfl rfl ?_
        refine g_iconst (pc' := 36) dX9_cards_35 rfl ?_
        refine g_iload_n (pc' := 37) 3 dX9_cards_36 rfl rfl ?_
        refine g_callSip (pc' := 40) (As := [vi j, vi 0, vi c]) (S := []) dX9_cards_37 rfl m_X9_191 w_X9_isWithin (c_X9_isWithin X M j hj 0 (by decide) c hc) rfl (by decide) (by decide) rfl (Nat.le_of_ble_eq_true rfl) (fun z11 q10 => ?_)
        refine g_if_eq (pc' := 43) (tgt := 53) ⟨by omega, by omega⟩ dX9_cards_40 rfl rfl (fun c12 => ?_) (fun c12 => ?_)
        · replace q10 := q10.resolve_left (fun h => absurd (c12.symm.trans h.1) (by decide))
          refine g_ldc2 (pc' := 56) (v := (-1)) dX9_cards_53 rfl k_X9_104 ?_
          refine g_lreturn dX9_cards_56 ?_
          exact ⟨rfl, by first | assumption | decide | omega⟩
        · replace q10 := q10.resolve_right (fun h => c12 h.1)
          refine g_iload (pc' := 45) 5 dX9_cards_43 rfl rfl ?_
          refine g_iconst (pc' := 46) dX9_cards_45 rfl ?_
          refine g_iconst (pc' := 47) dX9_cards_46 rfl ?_
          refine g_callSip (pc' := 50) (As := [vi w, vi 0, vi 1]) (S := []) dX9_cards_47 rfl m_X9_191 w_X9_isWithin (c_X9_isWithin X M w hw 0 (by decide) 1 (by decide)) rfl (by decide) (by decide) rfl (Nat.le_of_ble_eq_true rfl) (fun z14 q13 => ?_)
          refine g_if_ne (pc' := 53) (tgt := 57) ⟨by omega, by omega⟩ dX9_cards_50 rfl rfl (fun c15 => ?_) (fun c15 => ?_)
          · replace q13 := q13.resolve_right (fun h => c15 h.1)
            refine g_iload_n (pc' := 58) 1 dX9_cards_57 rfl rfl ?_
            refine g_iload_n (pc' := 59) 3 dX9_cards_58 rfl rfl ?_
            refine g_callSlp (pc' := 62) (As := [vi a, vi c]) (S := []) dX9_cards_59 rfl m_X9_263 w_X9_choices (c_X9_choices X M a ha c hc (by omega) (by omega)) rfl (by decide) (by decide) rfl (Nat.le_of_ble_eq_true rfl) (fun z17 q16 => ?_)
            refine g_lstore (pc' := 64) (L' := [(6, vl z17), (0, vr X 0), (1, vi a), (2, vi b), (3, vi c), (4, vi j), (5, vi w)]) dX9_cards_62 rfl (by decide) rfl ?_
            refine g_iload (pc' := 66) 6 dX9_cards_64 rfl rfl ?_
            refine g_iconst (pc' := 67) dX9_cards_66 rfl ?_
            refine g_ic_ne (pc' := 70) (tgt := 81) hw (by decide) dX9_cards_67 rfl rfl (fun c18 => ?_) (fun c18 => ?_)
            · refine g_lload (pc' := 83) 0 dX9_cards_81 rfl rfl ?_
              refine g_iload_n (pc' := 84) 4 dX9_cards_83 rfl rfl ?_
              refine g_iload (pc' := 86) 5 dX9_cards_84 rfl rfl ?_
              refine g_callSlp (pc' := 89) (As := [vi c, vi j]) (S := [vl z17]) dX9_cards_86 rfl m_X9_263 w_X9_choices (c_X9_choices X M c hc j hj (by omega) (by omega)) rfl (by decide) (by decide) rfl (Nat.le_of_ble_eq_true rfl) (fun z20 q19 => ?_)
              refine g_lmul (pc' := 90) dX9_cards_89 rfl ?_
              refine g_nrmL (fun n21 rn21 en21 => ?_)
              refine g_iload_n (pc' := 91) 3 dX9_cards_90 rfl rfl ?_
              refine g_iload (pc' := 93) 5 dX9_cards_91 rfl rfl ?_
              refine g_callSlp (pc' := 96) (As := [vi b, vi j]) (S := [vl n21]) dX9_cards_93 rfl m_X9_263 w_X9_choices (c_X9_choices X M b hb j hj (by omega) (by omega)) rfl (by decide) (by decide) rfl (Nat.le_of_ble_eq_true rfl) (fun z23 q22 => ?_)
              refine g_lmul (pc' := 97) dX9_cards_96 rfl ?_
              refine g_nrmL (fun n24 rn24 en24 => ?_)
              refine g_lreturn dX9_cards_97 ?_
              exact ⟨rfl, by first | assumption | decide | omega⟩
            · refine g_lload (pc' := 72) 0 dX9_cards_70 rfl rfl ?_
              refine g_iload_n (pc' := 73) 3 dX9_cards_72 rfl rfl ?_
              refine g_iload_n (pc' := 74) 4 dX9_cards_73 rfl rfl ?_
              refine g_iadd (pc' := 75) dX9_cards_74 rfl ?_
              refine g_iload_n (pc' := 76) 4 dX9_cards_75 rfl rfl ?_
              refine g_callSlp (pc' := 79) (As := [vi (b + c), vi c]) (S := [vl z17]) dX9_cards_76 rfl m_X9_263 w_X9_choices (c_X9_choices X M (b + c) ⟨by omega, by omega⟩ c hc (by omega) (by omega)) rfl (by decide) (by decide) rfl (Nat.le_of_ble_eq_true rfl) (fun z26 q25 => ?_)
              refine g_lmul (pc' := 80) dX9_cards_79 rfl ?_
              refine g_nrmL (fun n27 rn27 en27 => ?_)
              refine g_lreturn dX9_cards_80 ?_
              exact ⟨rfl, by first | assumption | decide | omega⟩
          · replace q13 := q13.resolve_left (fun h => absurd (c15.symm.trans h.1) (by decide))
            refine g_ldc2 (pc' := 56) (v := (-1)) dX9_cards_53 rfl k_X9_104 ?_
            refine g_lreturn dX9_cards_56 ?_
            exact ⟨rfl, by first | assumption | decide | omega⟩
    · replace q4 := q4.resolve_left (fun h => absurd (c6.symm.trans h.1) (by decide))
      refine g_ldc2 (pc' := 23) (v := (-1)) dX9_cards_20 rfl k_X9_104 ?_
      refine g_lreturn dX9_cards_23 ?_
      exact ⟨rfl, by first | assumption | decide | omega⟩
set_option maxHeartbeats 4000000 in
set_option maxRecDepth 100000 in
theorem c_X9_end (X : Cx) (M : Mm) (hi : IC M) (a : Int) (ha : inI a) : Con X 1 yX9_end cX9_end 2 (some .int) [vr X 0, vi a] M (Qi (fun r M1 => IC M1 ∧ Fr (fun c => c = 31) M M1 ∧ M1 2 5 = M 2 5 ∧ M1 1 2 = M 1 2 ∧ M1 1 4 = M 1 4 ∧ M1 1 6 = M 1 6 ∧ M1 11 5 = M 11 5 ∧ M1 10 2 = M 10 2 ∧ M1 10 4 = M 10 4 ∧ M1 10 6 = M 10 6 ∧ M1 20 5 = M 20 5 ∧ M1 19 2 = M 19 2 ∧ M1 19 4 = M 19 4 ∧ M1 19 6 = M 19 6 ∧ M1 29 0 = M 29 0 ∧ M1 29 1 = M 29 1 ∧ M1 0 11 = M 0 11 ∧ M1 0 12 = M 0 12 ∧ M1 0 13 = M 0 13 ∧ M1 0 10 = M 0 10 ∧ (((0 ≤ a ∧ a ≤ M 31 1) → r = a ∧ M1 31 1 = a) ∧ ((a < 0 ∨ M 31 1 < a) → r = -1 ∧ M1 31 1 = M 31 1)))) := by
  refine Con.ofG rfl (Nat.le_of_ble_eq_true rfl) ?_
  show G X 1 RX9 cX9_end 2 (some .int) (Qi (fun r M1 => IC M1 ∧ Fr (fun c => c = 31) M M1 ∧ M1 2 5 = M 2 5 ∧ M1 1 2 = M 1 2 ∧ M1 1 4 = M 1 4 ∧ M1 1 6 = M 1 6 ∧ M1 11 5 = M 11 5 ∧ M1 10 2 = M 10 2 ∧ M1 10 4 = M 10 4 ∧ M1 10 6 = M 10 6 ∧ M1 20 5 = M 20 5 ∧ M1 19 2 = M 19 2 ∧ M1 19 4 = M 19 4 ∧ M1 19 6 = M 19 6 ∧ M1 29 0 = M 29 0 ∧ M1 29 1 = M 29 1 ∧ M1 0 11 = M 0 11 ∧ M1 0 12 = M 0 12 ∧ M1 0 13 = M 0 13 ∧ M1 0 10 = M 0 10 ∧ (((0 ≤ a ∧ a ≤ M 31 1) → r = a ∧ M1 31 1 = a) ∧ ((a < 0 ∨ M 31 1 < a) → r = -1 ∧ M1 31 1 = M 31 1)))) 0 [(0, vr X 0), (1, vi a)] [] M
  refine g_iload_n (pc' := 1) 1 dX9_end_0 rfl rfl ?_
  refine g_if_lt (pc' := 4) (tgt := 15) ha dX9_end_1 rfl rfl (fun c1 => ?_) (fun c1 => ?_)
  · refine g_iconst (pc' := 16) dX9_end_15 rfl ?_
    refine g_ireturn dX9_end_16 ?_
    exact ⟨hi, Fr.rf, rfl, rfl, rfl, rfl, rfl, rfl, rfl, rfl, rfl, rfl, rfl, rfl, rfl, rfl, rfl, rfl, rfl, rfl, by omega⟩
  · refine g_iload_n (pc' := 5) 1 dX9_end_4 rfl rfl ?_
    refine g_aload_n (pc' := 6) 0 dX9_end_5 rfl rfl ?_
    refine g_getR (pc' := 9) dX9_end_6 rfl f_X9_35 rfl rfl ?_
    refine g_getI (pc' := 12) dX9_end_9 rfl f_X9_147 rfl rfl (fun v2 ev2 rv2 => ?_)
    have bv2 : 0 ≤ v2 ∧ v2 ≤ 400 := by rw [ev2]; exact hi.2.2.1.1
    have av2 : v2 = M 31 1 := ev2
    refine g_ic_le (pc' := 15) (tgt := 17) ha rv2 dX9_end_12 rfl rfl (fun c3 => ?_) (fun c3 => ?_)
    · refine g_aload_n (pc' := 18) 0 dX9_end_17 rfl rfl ?_
      refine g_getR (pc' := 21) dX9_end_18 rfl f_X9_35 rfl rfl ?_
      refine g_iload_n (pc' := 22) 1 dX9_end_21 rfl rfl ?_
      refine g_putI (pc' := 25) dX9_end_22 rfl p_X9_147 rfl rfl ha (fun M4 hM4 => ?_)
      have iM4 : IC M4 := IC.wr hi hM4 (by unfold okw isT; first | decide | omega)
      have fM4 : Fr (fun c => c = 31) M M4 := Fr.wr Fr.rf hM4 (by first | decide | omega | (dsimp only; omega))
      have q2_5_M4 : id (M4 2 5 = M 2 5) := (show M4 2 5 = M 2 5 by rw [hM4]; exact mu_ne _ _ (by first | decide | omega))
      have q1_2_M4 : id (M4 1 2 = M 1 2) := (show M4 1 2 = M 1 2 by rw [hM4]; exact mu_ne _ _ (by first | decide | omega))
      have q1_4_M4 : id (M4 1 4 = M 1 4) := (show M4 1 4 = M 1 4 by rw [hM4]; exact mu_ne _ _ (by first | decide | omega))
      have q1_6_M4 : id (M4 1 6 = M 1 6) := (show M4 1 6 = M 1 6 by rw [hM4]; exact mu_ne _ _ (by first | decide | omega))
      have q11_5_M4 : id (M4 11 5 = M 11 5) := (show M4 11 5 = M 11 5 by rw [hM4]; exact mu_ne _ _ (by first | decide | omega))
      have q10_2_M4 : id (M4 10 2 = M 10 2) := (show M4 10 2 = M 10 2 by rw [hM4]; exact mu_ne _ _ (by first | decide | omega))
      have q10_4_M4 : id (M4 10 4 = M 10 4) := (show M4 10 4 = M 10 4 by rw [hM4]; exact mu_ne _ _ (by first | decide | omega))
      have q10_6_M4 : id (M4 10 6 = M 10 6) := (show M4 10 6 = M 10 6 by rw [hM4]; exact mu_ne _ _ (by first | decide | omega))
      have q20_5_M4 : id (M4 20 5 = M 20 5) := (show M4 20 5 = M 20 5 by rw [hM4]; exact mu_ne _ _ (by first | decide | omega))
      have q19_2_M4 : id (M4 19 2 = M 19 2) := (show M4 19 2 = M 19 2 by rw [hM4]; exact mu_ne _ _ (by first | decide | omega))
      have q19_4_M4 : id (M4 19 4 = M 19 4) := (show M4 19 4 = M 19 4 by rw [hM4]; exact mu_ne _ _ (by first | decide | omega))
      have q19_6_M4 : id (M4 19 6 = M 19 6) := (show M4 19 6 = M 19 6 by rw [hM4]; exact mu_ne _ _ (by first | decide | omega))
      have q29_0_M4 : id (M4 29 0 = M 29 0) := (show M4 29 0 = M 29 0 by rw [hM4]; exact mu_ne _ _ (by first | decide | omega))
      have q29_1_M4 : id (M4 29 1 = M 29 1) := (show M4 29 1 = M 29 1 by rw [hM4]; exact mu_ne _ _ (by first | decide | omega))
      have q0_11_M4 : id (M4 0 11 = M 0 11) := (show M4 0 11 = M 0 11 by rw [hM4]; exact mu_ne _ _ (by first | decide | omega))
      have q0_12_M4 : id (M4 0 12 = M 0 12) := (show M4 0 12 = M 0 12 by rw [hM4]; exact mu_ne _ _ (by first | decide | omega))
      have q0_13_M4 : id (M4 0 13 = M 0 13) := (show M4 0 13 = M 0 13 by rw [hM4]; exact mu_ne _ _ (by first | decide | omega))
      have q0_10_M4 : id (M4 0 10 = M 0 10) := (show M4 0 10 = M 0 10 by rw [hM4]; exact mu_ne _ _ (by first | decide | omega))
      have xM4_31_1 : M4 31 1 = a := by rw [hM4]; exact mu_at _ _ _ _
      refine g_iload_n (pc' := 26) 1 dX9_end_25 rfl rfl ?_
      refine g_ireturn dX9_end_26 ?_
      exact ⟨iM4, fM4, q2_5_M4, q1_2_M4, q1_4_M4, q1_6_M4, q11_5_M4, q10_2_M4, q10_4_M4, q10_6_M4, q20_5_M4, q19_2_M4, q19_4_M4, q19_6_M4, q29_0_M4, q29_1_M4, q0_11_M4, q0_12_M4, q0_13_M4, q0_10_M4, by omega⟩
    · refine g_iconst (pc' := 16) dX9_end_15 rfl ?_
      refine g_ireturn dX9_end_16 ?_
      exact ⟨hi, Fr.rf, rfl, rfl, rfl, rfl, rfl, rfl, rfl, rfl, rfl, rfl, rfl, rfl, rfl, rfl, rfl, rfl, rfl, rfl, by omega⟩
set_option maxHeartbeats 4000000 in
set_option maxRecDepth 100000 in
theorem c_X9_wash (X : Cx) (M : Mm) (hi : IC M) : Con X 1 yX9_wash cX9_wash 2 (some .int) [vr X 0] M (Qi (fun r M1 => IC M1 ∧ Fr (fun c => c = 1) M M1 ∧ M1 2 5 = M 2 5 ∧ M1 1 6 = M 1 6 ∧ M1 11 5 = M 11 5 ∧ M1 10 2 = M 10 2 ∧ M1 10 4 = M 10 4 ∧ M1 10 6 = M 10 6 ∧ M1 20 5 = M 20 5 ∧ M1 19 2 = M 19 2 ∧ M1 19 4 = M 19 4 ∧ M1 19 6 = M 19 6 ∧ M1 29 0 = M 29 0 ∧ M1 29 1 = M 29 1 ∧ M1 31 1 = M 31 1 ∧ M1 0 11 = M 0 11 ∧ M1 0 12 = M 0 12 ∧ M1 0 13 = M 0 13 ∧ M1 0 10 = M 0 10 ∧ (r = M 1 2 + M 1 4 ∧ M1 1 2 = 0 ∧ M1 1 4 = 0))) := by
  refine Con.ofG rfl (Nat.le_of_ble_eq_true rfl) ?_
  show G X 1 RX9 cX9_wash 2 (some .int) (Qi (fun r M1 => IC M1 ∧ Fr (fun c => c = 1) M M1 ∧ M1 2 5 = M 2 5 ∧ M1 1 6 = M 1 6 ∧ M1 11 5 = M 11 5 ∧ M1 10 2 = M 10 2 ∧ M1 10 4 = M 10 4 ∧ M1 10 6 = M 10 6 ∧ M1 20 5 = M 20 5 ∧ M1 19 2 = M 19 2 ∧ M1 19 4 = M 19 4 ∧ M1 19 6 = M 19 6 ∧ M1 29 0 = M 29 0 ∧ M1 29 1 = M 29 1 ∧ M1 31 1 = M 31 1 ∧ M1 0 11 = M 0 11 ∧ M1 0 12 = M 0 12 ∧ M1 0 13 = M 0 13 ∧ M1 0 10 = M 0 10 ∧ (r = M 1 2 + M 1 4 ∧ M1 1 2 = 0 ∧ M1 1 4 = 0))) 0 [(0, vr X 0)] [] M
  refine g_aload_n (pc' := 1) 0 dX9_wash_0 rfl rfl ?_
  refine g_getR (pc' := 4) dX9_wash_1 rfl f_X9_12 rfl rfl ?_
  refine g_getI (pc' := 7) dX9_wash_4 rfl f_X9_207 rfl rfl (fun v1 ev1 rv1 => ?_)
  have bv1 : 0 ≤ v1 ∧ v1 ≤ 3 := by rw [ev1]; exact hi.2.1.1.1
  have av1 : v1 = M 1 2 := ev1
  refine g_aload_n (pc' := 8) 0 dX9_wash_7 rfl rfl ?_
  refine g_getR (pc' := 11) dX9_wash_8 rfl f_X9_12 rfl rfl ?_
  refine g_getI (pc' := 14) dX9_wash_11 rfl f_X9_213 rfl rfl (fun v2 ev2 rv2 => ?_)
  have bv2 : 0 ≤ v2 ∧ v2 ≤ 6 := by rw [ev2]; exact hi.2.1.1.2.1
  have av2 : v2 = M 1 4 := ev2
  refine g_iadd (pc' := 15) dX9_wash_14 rfl ?_
  obtain ⟨x3, ex3⟩ : ∃ z : Int, z = v1 + v2 := ⟨_, rfl⟩
  rw [← ex3]
  refine g_istore_n (pc' := 16) (i := 1) (L' := [(1, vi x3), (0, vr X 0)]) dX9_wash_15 rfl rfl (by decide) rfl ?_
  refine g_aload_n (pc' := 17) 1 dX9_wash_16 rfl rfl ?_
  refine g_getR (pc' := 20) dX9_wash_17 rfl f_X9_12 rfl rfl ?_
  refine g_iconst (pc' := 21) dX9_wash_20 rfl ?_
  refine g_putI (pc' := 24) dX9_wash_21 rfl p_X9_207 rfl rfl (by decide) (fun M4 hM4 => ?_)
  have iM4 : IC M4 := IC.wr hi hM4 (by unfold okw isT; first | decide | omega)
  have fM4 : Fr (fun c => c = 1) M M4 := Fr.wr Fr.rf hM4 (by first | decide | omega | (dsimp only; omega))
  have q2_5_M4 : id (M4 2 5 = M 2 5) := (show M4 2 5 = M 2 5 by rw [hM4]; exact mu_ne _ _ (by first | decide | omega))
  have q1_6_M4 : id (M4 1 6 = M 1 6) := (show M4 1 6 = M 1 6 by rw [hM4]; exact mu_ne _ _ (by first | decide | omega))
  have q11_5_M4 : id (M4 11 5 = M 11 5) := (show M4 11 5 = M 11 5 by rw [hM4]; exact mu_ne _ _ (by first | decide | omega))
  have q10_2_M4 : id (M4 10 2 = M 10 2) := (show M4 10 2 = M 10 2 by rw [hM4]; exact mu_ne _ _ (by first | decide | omega))
  have q10_4_M4 : id (M4 10 4 = M 10 4) := (show M4 10 4 = M 10 4 by rw [hM4]; exact mu_ne _ _ (by first | decide | omega))
  have q10_6_M4 : id (M4 10 6 = M 10 6) := (show M4 10 6 = M 10 6 by rw [hM4]; exact mu_ne _ _ (by first | decide | omega))
  have q20_5_M4 : id (M4 20 5 = M 20 5) := (show M4 20 5 = M 20 5 by rw [hM4]; exact mu_ne _ _ (by first | decide | omega))
  have q19_2_M4 : id (M4 19 2 = M 19 2) := (show M4 19 2 = M 19 2 by rw [hM4]; exact mu_ne _ _ (by first | decide | omega))
  have q19_4_M4 : id (M4 19 4 = M 19 4) := (show M4 19 4 = M 19 4 by rw [hM4]; exact mu_ne _ _ (by first | decide | omega))
  have q19_6_M4 : id (M4 19 6 = M 19 6) := (show M4 19 6 = M 19 6 by rw [hM4]; exact mu_ne _ _ (by first | decide | omega))
  have q29_0_M4 : id (M4 29 0 = M 29 0) := (show M4 29 0 = M 29 0 by rw [hM4]; exact mu_ne _ _ (by first | decide | omega))
  have q29_1_M4 : id (M4 29 1 = M 29 1) := (show M4 29 1 = M 29 1 by rw [hM4]; exact mu_ne _ _ (by first | decide | omega))
  have q31_1_M4 : id (M4 31 1 = M 31 1) := (show M4 31 1 = M 31 1 by rw [hM4]; exact mu_ne _ _ (by first | decide | omega))
  have q0_11_M4 : id (M4 0 11 = M 0 11) := (show M4 0 11 = M 0 11 by rw [hM4]; exact mu_ne _ _ (by first | decide | omega))
  have q0_12_M4 : id (M4 0 12 = M 0 12) := (show M4 0 12 = M 0 12 by rw [hM4]; exact mu_ne _ _ (by first | decide | omega))
  have q0_13_M4 : id (M4 0 13 = M 0 13) := (show M4 0 13 = M 0 13 by rw [hM4]; exact mu_ne _ _ (by first | decide | omega))
  have q0_10_M4 : id (M4 0 10 = M 0 10) := (show M4 0 10 = M 0 10 by rw [hM4]; exact mu_ne _ _ (by first | decide | omega))
  have q1_4_M4 : (M4 1 4 = M 1 4) := (show M4 1 4 = M 1 4 by rw [hM4]; exact mu_ne _ _ (by first | decide | omega))
  have wM4_1_4 : M4 1 4 = M 1 4 := by rw [hM4]; exact mu_ne _ _ (by first | decide | omega)
  have xM4_1_2 : M4 1 2 = 0 := by rw [hM4]; exact mu_at _ _ _ _
  refine g_aload_n (pc' := 25) 1 dX9_wash_24 rfl rfl ?_
  refine g_getR (pc' := 28) dX9_wash_25 rfl f_X9_12 rfl rfl ?_
  refine g_iconst (pc' := 29) dX9_wash_28 rfl ?_
  refine g_putI (pc' := 32) dX9_wash_29 rfl p_X9_213 rfl rfl (by decide) (fun M5 hM5 => ?_)
  have iM5 : IC M5 := IC.wr iM4 hM5 (by unfold okw isT; first | decide | omega)
  have fM5 : Fr (fun c => c = 1) M M5 := Fr.wr fM4 hM5 (by first | decide | omega | (dsimp only; omega))
  have q2_5_M5 : id (M5 2 5 = M 2 5) := (show M5 2 5 = M4 2 5 by rw [hM5]; exact mu_ne _ _ (by first | decide | omega)).trans q2_5_M4
  have q1_6_M5 : id (M5 1 6 = M 1 6) := (show M5 1 6 = M4 1 6 by rw [hM5]; exact mu_ne _ _ (by first | decide | omega)).trans q1_6_M4
  have q11_5_M5 : id (M5 11 5 = M 11 5) := (show M5 11 5 = M4 11 5 by rw [hM5]; exact mu_ne _ _ (by first | decide | omega)).trans q11_5_M4
  have q10_2_M5 : id (M5 10 2 = M 10 2) := (show M5 10 2 = M4 10 2 by rw [hM5]; exact mu_ne _ _ (by first | decide | omega)).trans q10_2_M4
  have q10_4_M5 : id (M5 10 4 = M 10 4) := (show M5 10 4 = M4 10 4 by rw [hM5]; exact mu_ne _ _ (by first | decide | omega)).trans q10_4_M4
  have q10_6_M5 : id (M5 10 6 = M 10 6) := (show M5 10 6 = M4 10 6 by rw [hM5]; exact mu_ne _ _ (by first | decide | omega)).trans q10_6_M4
  have q20_5_M5 : id (M5 20 5 = M 20 5) := (show M5 20 5 = M4 20 5 by rw [hM5]; exact mu_ne _ _ (by first | decide | omega)).trans q20_5_M4
  have q19_2_M5 : id (M5 19 2 = M 19 2) := (show M5 19 2 = M4 19 2 by rw [hM5]; exact mu_ne _ _ (by first | decide | omega)).trans q19_2_M4
  have q19_4_M5 : id (M5 19 4 = M 19 4) := (show M5 19 4 = M4 19 4 by rw [hM5]; exact mu_ne _ _ (by first | decide | omega)).trans q19_4_M4
  have q19_6_M5 : id (M5 19 6 = M 19 6) := (show M5 19 6 = M4 19 6 by rw [hM5]; exact mu_ne _ _ (by first | decide | omega)).trans q19_6_M4
  have q29_0_M5 : id (M5 29 0 = M 29 0) := (show M5 29 0 = M4 29 0 by rw [hM5]; exact mu_ne _ _ (by first | decide | omega)).trans q29_0_M4
  have q29_1_M5 : id (M5 29 1 = M 29 1) := (show M5 29 1 = M4 29 1 by rw [hM5]; exact mu_ne _ _ (by first | decide | omega)).trans q29_1_M4
  have q31_1_M5 : id (M5 31 1 = M 31 1) := (show M5 31 1 = M4 31 1 by rw [hM5]; exact mu_ne _ _ (by first | decide | omega)).trans q31_1_M4
  have q0_11_M5 : id (M5 0 11 = M 0 11) := (show M5 0 11 = M4 0 11 by rw [hM5]; exact mu_ne _ _ (by first | decide | omega)).trans q0_11_M4
  have q0_12_M5 : id (M5 0 12 = M 0 12) := (show M5 0 12 = M4 0 12 by rw [hM5]; exact mu_ne _ _ (by first | decide | omega)).trans q0_12_M4
  have q0_13_M5 : id (M5 0 13 = M 0 13) := (show M5 0 13 = M4 0 13 by rw [hM5]; exact mu_ne _ _ (by first | decide | omega)).trans q0_13_M4
  have q0_10_M5 : id (M5 0 10 = M 0 10) := (show M5 0 10 = M4 0 10 by rw [hM5]; exact mu_ne _ _ (by first | decide | omega)).trans q0_10_M4
  have wM5_1_2 : M5 1 2 = M4 1 2 := by rw [hM5]; exact mu_ne _ _ (by first | decide | omega)
  have xM5_1_2 : M5 1 2 = 0 := (show M5 1 2 = M4 1 2 by rw [hM5]; exact mu_ne _ _ (by first | decide | omega)).trans xM4_1_2
  have xM5_1_4 : M5 1 4 = 0 := by rw [hM5]; exact mu_at _ _ _ _
  refine g_iload_n (pc' := 33) 0 dX9_wash_32 rfl rfl ?_
  refine g_ireturn dX9_wash_33 ?_
  exact ⟨iM5, fM5, q2_5_M5, q1_6_M5, q11_5_M5, q10_2_M5, q10_4_M5, q10_6_M5, q20_5_M5, q19_2_M5, q19_4_M5, q19_6_M5, q29_0_M5, q29_1_M5, q31_1_M5, q0_11_M5, q0_12_M5, q0_13_M5, q0_10_M5, by omega⟩
set_option maxHeartbeats 4000000 in
set_option maxRecDepth 100000 in
theorem c_X9_reach (X : Cx) (M : Mm) (hi : IC M) (a : Int) (ha : inI a) (b : Int) (hb : inI b) (c : Int) (hc : inI c) (w : Int) (hw : inI w) (x : Int) (hx : inI x) (y : Int) (hy : inI y) : Con X 20 yX9_reach cX9_reach 8 (some .int) [vr X 0, vi a, vi b, vi c, vi w, vi x, vi y] M (Qi (fun r M1 => IC M1 ∧ Fr (fun c => (60 ≤ c ∧ c ≤ 83)) M M1 ∧ M1 2 5 = M 2 5 ∧ M1 1 2 = M 1 2 ∧ M1 1 4 = M 1 4 ∧ M1 1 6 = M 1 6 ∧ M1 11 5 = M 11 5 ∧ M1 10 2 = M 10 2 ∧ M1 10 4 = M 10 4 ∧ M1 10 6 = M 10 6 ∧ M1 20 5 = M 20 5 ∧ M1 19 2 = M 19 2 ∧ M1 19 4 = M 19 4 ∧ M1 19 6 = M 19 6 ∧ M1 29 0 = M 29 0 ∧ M1 29 1 = M 29 1 ∧ M1 31 1 = M 31 1 ∧ M1 0 11 = M 0 11 ∧ M1 0 12 = M 0 12 ∧ M1 0 13 = M 0 13 ∧ M1 0 10 = M 0 10 ∧ (inI r))) := by
  refine Con.ofG rfl (Nat.le_of_ble_eq_true rfl) ?_
  show G X 20 RX9 cX9_reach 8 (some .int) (Qi (fun r M1 => IC M1 ∧ Fr (fun c => (60 ≤ c ∧ c ≤ 83)) M M1 ∧ M1 2 5 = M 2 5 ∧ M1 1 2 = M 1 2 ∧ M1 1 4 = M 1 4 ∧ M1 1 6 = M 1 6 ∧ M1 11 5 = M 11 5 ∧ M1 10 2 = M 10 2 ∧ M1 10 4 = M 10 4 ∧ M1 10 6 = M 10 6 ∧ M1 20 5 = M 20 5 ∧ M1 19 2 = M 19 2 ∧ M1 19 4 = M 19 4 ∧ M1 19 6 = M 19 6 ∧ M1 29 0 = M 29 0 ∧ M1 29 1 = M 29 1 ∧ M1 31 1 = M 31 1 ∧ M1 0 11 = M 0 11 ∧ M1 0 12 = M 0 12 ∧ M1 0 13 = M 0 13 ∧ M1 0 10 = M 0 10 ∧ (inI r))) 0 [(0, vr X 0), (1, vi a), (2, vi b), (3, vi c), (4, vi w), (5, vi x), (6, vi y)] [] M
  refine g_aload_n (pc' := 1) 0 dX9_reach_0 rfl rfl ?_
  refine g_getR (pc' := 4) dX9_reach_1 rfl f_X9_12 rfl rfl ?_
  refine g_getR (pc' := 7) dX9_reach_4 rfl f_X9_86 rfl rfl ?_
  refine g_iload_n (pc' := 8) 1 dX9_reach_7 rfl rfl ?_
  refine g_callVip (pc' := 11) (As := [vi a]) (b := 2) (S := []) dX9_reach_8 rfl m_X9_92 w_X7_has (c_X7_has X M 2 isT_2 (hi.1 _ isT_2) a ha) rfl ⟨_, _, _, rfl, rfl, rfl⟩ (by decide) (by decide) rfl (Nat.le_of_ble_eq_true rfl) (fun z2 q1 => ?_)
  refine g_if_eq (pc' := 14) (tgt := 21) ⟨by omega, by omega⟩ dX9_reach_11 rfl rfl (fun c3 => ?_) (fun c3 => ?_)
  · replace q1 := q1.resolve_left (fun h => absurd (c3.symm.trans h.1) (by decide))
    refine g_iconst (pc' := 22) dX9_reach_21 rfl ?_
    refine g_ireturn dX9_reach_22 ?_
    exact ⟨hi, Fr.rf, rfl, rfl, rfl, rfl, rfl, rfl, rfl, rfl, rfl, rfl, rfl, rfl, rfl, rfl, rfl, rfl, rfl, rfl, rfl, by omega⟩
  · replace q1 := q1.resolve_right (fun h => c3 h.1)
    refine g_iload_n (pc' := 15) 2 dX9_reach_14 rfl rfl ?_
    refine g_callSip (pc' := 18) (As := [vi b]) (S := []) dX9_reach_15 rfl m_X9_101 w_X9_isStuff (c_X9_isStuff X M b hb) rfl (by decide) (by decide) rfl (Nat.le_of_ble_eq_true rfl) (fun z5 q4 => ?_)
    refine g_if_ne (pc' := 21) (tgt := 23) ⟨by omega, by omega⟩ dX9_reach_18 rfl rfl (fun c6 => ?_) (fun c6 => ?_)
    · replace q4 := q4.resolve_right (fun h => c6 h.1)
      refine g_iload_n (pc' := 24) 3 dX9_reach_23 rfl rfl ?_
      refine g_iconst (pc' := 25) dX9_reach_24 rfl ?_
      refine g_bipush (pc' := 27) (v := 100) dX9_reach_25 rfl (by decide) ?_
      refine g_callSip (pc' := 30) (As := [vi c, vi 0, vi 100]) (S := []) dX9_reach_27 rfl m_X9_191 w_X9_isWithin (c_X9_isWithin X M c hc 0 (by decide) 100 (by decide)) rfl (by decide) (by decide) rfl (Nat.le_of_ble_eq_true rfl) (fun z8 q7 => ?_)
      refine g_if_eq (pc' := 33) (tgt := 44) ⟨by omega, by omega⟩ dX9_reach_30 rfl rfl (fun c9 => ?_) (fun c9 => ?_)
      · replace q7 := q7.resolve_left (fun h => absurd (c9.symm.trans h.1) (by decide))
        refine g_iconst (pc' := 45) dX9_reach_44 rfl ?_
        refine g_ireturn dX9_reach_45 ?_
        exact ⟨hi, Fr.rf, rfl, rfl, rfl, rfl, rfl, rfl, rfl, rfl, rfl, rfl, rfl, rfl, rfl, rfl, rfl, rfl, rfl, rfl, rfl, by omega⟩
      · replace q7 := q7.resolve_right (fun h => c9 h.1)
        refine g_iload (pc' := 35) 4 dX9_reach_33 rfl rfl ?_
        refine g_iconst (pc' := 36) dX9_reach_35 rfl ?_
        refine g_bipush (pc' := 38) (v := 100) dX9_reach_36 rfl (by decide) ?_
        refine g_callSip (pc' := 41) (As := [vi w, vi 0, vi 100]) (S := []) dX9_reach_38 rfl m_X9_191 w_X9_isWithin (c_X9_isWithin X M w hw 0 (by decide) 100 (by decide)) rfl (by decide) (by decide) rfl (Nat.le_of_ble_eq_true rfl) (fun z11 q10 => ?_)
        refine g_if_ne (pc' := 44) (tgt := 46) ⟨by omega, by omega⟩ dX9_reach_41 rfl rfl (fun c12 => ?_) (fun c12 => ?_)
        · replace q10 := q10.resolve_right (fun h => c12 h.1)
          refine g_aload_n (pc' := 47) 0 dX9_reach_46 rfl rfl ?_
          refine g_getR (pc' := 50) dX9_reach_47 rfl f_X9_46 rfl rfl ?_
          refine g_aload_n (pc' := 51) 0 dX9_reach_50 rfl rfl ?_
          refine g_getR (pc' := 54) dX9_reach_51 rfl f_X9_12 rfl rfl ?_
          refine g_iload_n (pc' := 55) 1 dX9_reach_54 rfl rfl ?_
          refine g_iload_n (pc' := 56) 2 dX9_reach_55 rfl rfl ?_
          refine g_iload_n (pc' := 57) 3 dX9_reach_56 rfl rfl ?_
          refine g_iload (pc' := 59) 4 dX9_reach_57 rfl rfl ?_
          refine g_callVi (pc' := 62) (As := [vr X 1, vi a, vi b, vi c, vi w]) (b := 60) (S := []) dX9_reach_59 rfl m_X9_216 w_X5_fewest (c_X5_fewest X M hi a ha b hb c hc w hw) rfl ⟨_, _, _, rfl, rfl, rfl⟩ (by decide) (by decide) rfl (Nat.le_of_ble_eq_true rfl) (fun z14 M15 q13 => ?_)
          obtain ⟨iM15, fM150, pM15⟩ := q13
          have fM15 : Fr (fun c => (60 ≤ c ∧ c ≤ 83)) M M15 := Fr.tr Fr.rf fM150 fi_18
          have q2_5_M15 : id (M15 2 5 = M 2 5) := (congrFun (fM150 2 (by first | decide | omega | (dsimp only; omega))) 5)
          have q1_2_M15 : id (M15 1 2 = M 1 2) := (congrFun (fM150 1 (by first | decide | omega | (dsimp only; omega))) 2)
          have q1_4_M15 : id (M15 1 4 = M 1 4) := (congrFun (fM150 1 (by first | decide | omega | (dsimp only; omega))) 4)
          have q1_6_M15 : id (M15 1 6 = M 1 6) := (congrFun (fM150 1 (by first | decide | omega | (dsimp only; omega))) 6)
          have q11_5_M15 : id (M15 11 5 = M 11 5) := (congrFun (fM150 11 (by first | decide | omega | (dsimp only; omega))) 5)
          have q10_2_M15 : id (M15 10 2 = M 10 2) := (congrFun (fM150 10 (by first | decide | omega | (dsimp only; omega))) 2)
          have q10_4_M15 : id (M15 10 4 = M 10 4) := (congrFun (fM150 10 (by first | decide | omega | (dsimp only; omega))) 4)
          have q10_6_M15 : id (M15 10 6 = M 10 6) := (congrFun (fM150 10 (by first | decide | omega | (dsimp only; omega))) 6)
          have q20_5_M15 : id (M15 20 5 = M 20 5) := (congrFun (fM150 20 (by first | decide | omega | (dsimp only; omega))) 5)
          have q19_2_M15 : id (M15 19 2 = M 19 2) := (congrFun (fM150 19 (by first | decide | omega | (dsimp only; omega))) 2)
          have q19_4_M15 : id (M15 19 4 = M 19 4) := (congrFun (fM150 19 (by first | decide | omega | (dsimp only; omega))) 4)
          have q19_6_M15 : id (M15 19 6 = M 19 6) := (congrFun (fM150 19 (by first | decide | omega | (dsimp only; omega))) 6)
          have q29_0_M15 : id (M15 29 0 = M 29 0) := (congrFun (fM150 29 (by first | decide | omega | (dsimp only; omega))) 0)
          have q29_1_M15 : id (M15 29 1 = M 29 1) := (congrFun (fM150 29 (by first | decide | omega | (dsimp only; omega))) 1)
          have q31_1_M15 : id (M15 31 1 = M 31 1) := (congrFun (fM150 31 (by first | decide | omega | (dsimp only; omega))) 1)
          have q0_11_M15 : id (M15 0 11 = M 0 11) := (congrFun (fM150 0 (by first | decide | omega | (dsimp only; omega))) 11)
          have q0_12_M15 : id (M15 0 12 = M 0 12) := (congrFun (fM150 0 (by first | decide | omega | (dsimp only; omega))) 12)
          have q0_13_M15 : id (M15 0 13 = M 0 13) := (congrFun (fM150 0 (by first | decide | omega | (dsimp only; omega))) 13)
          have q0_10_M15 : id (M15 0 10 = M 0 10) := (congrFun (fM150 0 (by first | decide | omega | (dsimp only; omega))) 10)
          refine g_istore (pc' := 64) (L' := [(7, vi z14), (0, vr X 0), (1, vi a), (2, vi b), (3, vi c), (4, vi w), (5, vi x), (6, vi y)]) dX9_reach_62 rfl (by decide) rfl ?_
          refine g_iload (pc' := 66) 6 dX9_reach_64 rfl rfl ?_
          refine g_iconst (pc' := 67) dX9_reach_66 rfl ?_
          refine g_ic_ne (pc' := 70) (tgt := 75) hx (by decide) dX9_reach_67 rfl rfl (fun c16 => ?_) (fun c16 => ?_)
          · refine g_aload_n (pc' := 76) 1 dX9_reach_75 rfl rfl ?_
            refine g_getR (pc' := 79) dX9_reach_76 rfl f_X9_46 rfl rfl ?_
            refine g_iload (pc' := 81) 0 dX9_reach_79 rfl rfl ?_
            refine g_iload (pc' := 83) 6 dX9_reach_81 rfl rfl ?_
            refine g_iload (pc' := 85) 7 dX9_reach_83 rfl rfl ?_
            refine g_callVip (pc' := 88) (As := [vi z14, vi x, vi y]) (b := 60) (S := []) dX9_reach_85 rfl m_X9_220 w_X5_ofFirst (c_X5_ofFirst X M15 iM15 z14 ⟨by omega, by omega⟩ x hx y hy) rfl ⟨_, _, _, rfl, rfl, rfl⟩ (by decide) (by decide) rfl (Nat.le_of_ble_eq_true rfl) (fun z18 q17 => ?_)
            refine g_ireturn dX9_reach_88 ?_
            exact ⟨iM15, fM15, q2_5_M15, q1_2_M15, q1_4_M15, q1_6_M15, q11_5_M15, q10_2_M15, q10_4_M15, q10_6_M15, q20_5_M15, q19_2_M15, q19_4_M15, q19_6_M15, q29_0_M15, q29_1_M15, q31_1_M15, q0_11_M15, q0_12_M15, q0_13_M15, q0_10_M15, by omega⟩
          · refine g_iload (pc' := 72) 0 dX9_reach_70 rfl rfl ?_
            refine g_goto (tgt := 88) dX9_reach_72 rfl ?_
            refine g_ireturn dX9_reach_88 ?_
            exact ⟨iM15, fM15, q2_5_M15, q1_2_M15, q1_4_M15, q1_6_M15, q11_5_M15, q10_2_M15, q10_4_M15, q10_6_M15, q20_5_M15, q19_2_M15, q19_4_M15, q19_6_M15, q29_0_M15, q29_1_M15, q31_1_M15, q0_11_M15, q0_12_M15, q0_13_M15, q0_10_M15, by omega⟩
        · replace q10 := q10.resolve_left (fun h => absurd (c12.symm.trans h.1) (by decide))
          refine g_iconst (pc' := 45) dX9_reach_44 rfl ?_
          refine g_ireturn dX9_reach_45 ?_
          exact ⟨hi, Fr.rf, rfl, rfl, rfl, rfl, rfl, rfl, rfl, rfl, rfl, rfl, rfl, rfl, rfl, rfl, rfl, rfl, rfl, rfl, rfl, by omega⟩
    · replace q4 := q4.resolve_left (fun h => absurd (c6.symm.trans h.1) (by decide))
      refine g_iconst (pc' := 22) dX9_reach_21 rfl ?_
      refine g_ireturn dX9_reach_22 ?_
      exact ⟨hi, Fr.rf, rfl, rfl, rfl, rfl, rfl, rfl, rfl, rfl, rfl, rfl, rfl, rfl, rfl, rfl, rfl, rfl, rfl, rfl, rfl, by omega⟩
set_option maxHeartbeats 4000000 in
set_option maxRecDepth 100000 in
theorem c_X9_addTasting (X : Cx) (M : Mm) (hi : IC M) (a : Int) (ha : inI a) (b : Int) (hb : inI b) (c : Int) (hc : inI c) : Con X 3 yX9_addTasting cX9_addTasting 4 (some .int) [vr X 0, vi a, vi b, vi c] M (Qi (fun r M1 => IC M1 ∧ Fr (fun c => c = 1 ∨ c = 8) M M1 ∧ M1 2 5 = M 2 5 ∧ M1 1 2 = M 1 2 ∧ M1 1 6 = M 1 6 ∧ M1 11 5 = M 11 5 ∧ M1 10 2 = M 10 2 ∧ M1 10 4 = M 10 4 ∧ M1 10 6 = M 10 6 ∧ M1 20 5 = M 20 5 ∧ M1 19 2 = M 19 2 ∧ M1 19 4 = M 19 4 ∧ M1 19 6 = M 19 6 ∧ M1 29 0 = M 29 0 ∧ M1 29 1 = M 29 1 ∧ M1 31 1 = M 31 1 ∧ M1 0 11 = M 0 11 ∧ M1 0 12 = M 0 12 ∧ M1 0 13 = M 0 13 ∧ M1 0 10 = M 0 10 ∧ (((b < 0 ∨ 3 < b ∨ c < 0 ∨ 100 < c) → r = -1 ∧ M1 1 4 = M 1 4) ∧ (0 ≤ b → b ≤ 3 → 0 ≤ c → c ≤ 100 → (a < 0 ∨ M 2 5 ≤ a) → r = -2 ∧ M1 1 4 = M 1 4) ∧ (0 ≤ b → b ≤ 3 → 0 ≤ c → c ≤ 100 → 0 ≤ a → a < M 2 5 → 6 ≤ M 1 4 → r = -5 ∧ M1 1 4 = M 1 4) ∧ (0 ≤ b → b ≤ 3 → 0 ≤ c → c ≤ 100 → 0 ≤ a → a < M 2 5 → M 1 4 < 6 → r = M 1 4 + 1 ∧ M1 1 4 = M 1 4 + 1)))) := by
  refine Con.ofG rfl (Nat.le_of_ble_eq_true rfl) ?_
  show G X 3 RX9 cX9_addTasting 4 (some .int) (Qi (fun r M1 => IC M1 ∧ Fr (fun c => c = 1 ∨ c = 8) M M1 ∧ M1 2 5 = M 2 5 ∧ M1 1 2 = M 1 2 ∧ M1 1 6 = M 1 6 ∧ M1 11 5 = M 11 5 ∧ M1 10 2 = M 10 2 ∧ M1 10 4 = M 10 4 ∧ M1 10 6 = M 10 6 ∧ M1 20 5 = M 20 5 ∧ M1 19 2 = M 19 2 ∧ M1 19 4 = M 19 4 ∧ M1 19 6 = M 19 6 ∧ M1 29 0 = M 29 0 ∧ M1 29 1 = M 29 1 ∧ M1 31 1 = M 31 1 ∧ M1 0 11 = M 0 11 ∧ M1 0 12 = M 0 12 ∧ M1 0 13 = M 0 13 ∧ M1 0 10 = M 0 10 ∧ (((b < 0 ∨ 3 < b ∨ c < 0 ∨ 100 < c) → r = -1 ∧ M1 1 4 = M 1 4) ∧ (0 ≤ b → b ≤ 3 → 0 ≤ c → c ≤ 100 → (a < 0 ∨ M 2 5 ≤ a) → r = -2 ∧ M1 1 4 = M 1 4) ∧ (0 ≤ b → b ≤ 3 → 0 ≤ c → c ≤ 100 → 0 ≤ a → a < M 2 5 → 6 ≤ M 1 4 → r = -5 ∧ M1 1 4 = M 1 4) ∧ (0 ≤ b → b ≤ 3 → 0 ≤ c → c ≤ 100 → 0 ≤ a → a < M 2 5 → M 1 4 < 6 → r = M 1 4 + 1 ∧ M1 1 4 = M 1 4 + 1)))) 0 [(0, vr X 0), (1, vi a), (2, vi b), (3, vi c)] [] M
  refine g_iload_n (pc' := 1) 2 dX9_addTasting_0 rfl rfl ?_
  refine g_callSip (pc' := 4) (As := [vi b]) (S := []) dX9_addTasting_1 rfl m_X9_101 w_X9_isStuff (c_X9_isStuff X M b hb) rfl (by decide) (by decide) rfl (Nat.le_of_ble_eq_true rfl) (fun z2 q1 => ?_)
  refine g_if_eq (pc' := 7) (tgt := 17) ⟨by omega, by omega⟩ dX9_addTasting_4 rfl rfl (fun c3 => ?_) (fun c3 => ?_)
  · replace q1 := q1.resolve_left (fun h => absurd (c3.symm.trans h.1) (by decide))
    refine g_iconst (pc' := 18) dX9_addTasting_17 rfl ?_
    refine g_ireturn dX9_addTasting_18 ?_
    exact ⟨hi, Fr.rf, rfl, rfl, rfl, rfl, rfl, rfl, rfl, rfl, rfl, rfl, rfl, rfl, rfl, rfl, rfl, rfl, rfl, rfl, by omega⟩
  · replace q1 := q1.resolve_right (fun h => c3 h.1)
    refine g_iload_n (pc' := 8) 3 dX9_addTasting_7 rfl rfl ?_
    refine g_iconst (pc' := 9) dX9_addTasting_8 rfl ?_
    refine g_bipush (pc' := 11) (v := 100) dX9_addTasting_9 rfl (by decide) ?_
    refine g_callSip (pc' := 14) (As := [vi c, vi 0, vi 100]) (S := []) dX9_addTasting_11 rfl m_X9_191 w_X9_isWithin (c_X9_isWithin X M c hc 0 (by decide) 100 (by decide)) rfl (by decide) (by decide) rfl (Nat.le_of_ble_eq_true rfl) (fun z5 q4 => ?_)
    refine g_if_ne (pc' := 17) (tgt := 19) ⟨by omega, by omega⟩ dX9_addTasting_14 rfl rfl (fun c6 => ?_) (fun c6 => ?_)
    · replace q4 := q4.resolve_right (fun h => c6 h.1)
      refine g_aload_n (pc' := 20) 0 dX9_addTasting_19 rfl rfl ?_
      refine g_getR (pc' := 23) dX9_addTasting_20 rfl f_X9_12 rfl rfl ?_
      refine g_getR (pc' := 26) dX9_addTasting_23 rfl f_X9_86 rfl rfl ?_
      refine g_iload_n (pc' := 27) 1 dX9_addTasting_26 rfl rfl ?_
      refine g_callVip (pc' := 30) (As := [vi a]) (b := 2) (S := []) dX9_addTasting_27 rfl m_X9_92 w_X7_has (c_X7_has X M 2 isT_2 (hi.1 _ isT_2) a ha) rfl ⟨_, _, _, rfl, rfl, rfl⟩ (by decide) (by decide) rfl (Nat.le_of_ble_eq_true rfl) (fun z8 q7 => ?_)
      refine g_if_ne (pc' := 33) (tgt := 36) ⟨by omega, by omega⟩ dX9_addTasting_30 rfl rfl (fun c9 => ?_) (fun c9 => ?_)
      · replace q7 := q7.resolve_right (fun h => c9 h.1)
        refine g_aload_n (pc' := 37) 0 dX9_addTasting_36 rfl rfl ?_
        refine g_getR (pc' := 40) dX9_addTasting_37 rfl f_X9_12 rfl rfl ?_
        refine g_getI (pc' := 43) dX9_addTasting_40 rfl f_X9_213 rfl rfl (fun v10 ev10 rv10 => ?_)
        have bv10 : 0 ≤ v10 ∧ v10 ≤ 6 := by rw [ev10]; exact hi.2.1.1.2.1
        have av10 : v10 = M 1 4 := ev10
        refine g_bipush (pc' := 45) (v := 6) dX9_addTasting_43 rfl (by decide) ?_
        refine g_ic_lt (pc' := 48) (tgt := 51) rv10 (by decide) dX9_addTasting_45 rfl rfl (fun c11 => ?_) (fun c11 => ?_)
        · refine g_aload_n (pc' := 52) 0 dX9_addTasting_51 rfl rfl ?_
          refine g_getR (pc' := 55) dX9_addTasting_52 rfl f_X9_12 rfl rfl ?_
          refine g_getR (pc' := 58) dX9_addTasting_55 rfl f_X9_226 rfl rfl ?_
          refine g_aload_n (pc' := 59) 0 dX9_addTasting_58 rfl rfl ?_
          refine g_getR (pc' := 62) dX9_addTasting_59 rfl f_X9_12 rfl rfl ?_
          refine g_getI (pc' := 65) dX9_addTasting_62 rfl f_X9_213 rfl rfl (fun v12 ev12 rv12 => ?_)
          obtain rfl : v10 = v12 := ev10.trans ev12.symm
          refine g_iload_n (pc' := 66) 1 dX9_addTasting_65 rfl rfl ?_
          refine g_iload_n (pc' := 67) 2 dX9_addTasting_66 rfl rfl ?_
          refine g_iload_n (pc' := 68) 3 dX9_addTasting_67 rfl rfl ?_
          refine g_callSv (pc' := 71) (As := [vr X 8, vi v10, vi a, vi b, vi c]) (S := []) dX9_addTasting_68 rfl m_X9_229 w_X9_putTriple (c_X9_putTriple X M hi 8 18 rfl (by unfold free isT; omega) v10 rv10 a ha b hb c hc ⟨by omega, by omega⟩) rfl (by decide) (by decide) rfl (Nat.le_of_ble_eq_true rfl) (fun M14 q13 => ?_)
          obtain ⟨iM14, fM140⟩ := q13
          have fM14 : Fr (fun c => c = 1 ∨ c = 8) M M14 := Fr.tr Fr.rf fM140 (fun c z => by first | omega | (dsimp only at z ⊢; omega))
          have q2_5_M14 : id (M14 2 5 = M 2 5) := (congrFun (fM140 2 (by first | decide | omega | (dsimp only; omega))) 5)
          have q1_2_M14 : id (M14 1 2 = M 1 2) := (congrFun (fM140 1 (by first | decide | omega | (dsimp only; omega))) 2)
          have q1_6_M14 : id (M14 1 6 = M 1 6) := (congrFun (fM140 1 (by first | decide | omega | (dsimp only; omega))) 6)
          have q11_5_M14 : id (M14 11 5 = M 11 5) := (congrFun (fM140 11 (by first | decide | omega | (dsimp only; omega))) 5)
          have q10_2_M14 : id (M14 10 2 = M 10 2) := (congrFun (fM140 10 (by first | decide | omega | (dsimp only; omega))) 2)
          have q10_4_M14 : id (M14 10 4 = M 10 4) := (congrFun (fM140 10 (by first | decide | omega | (dsimp only; omega))) 4)
          have q10_6_M14 : id (M14 10 6 = M 10 6) := (congrFun (fM140 10 (by first | decide | omega | (dsimp only; omega))) 6)
          have q20_5_M14 : id (M14 20 5 = M 20 5) := (congrFun (fM140 20 (by first | decide | omega | (dsimp only; omega))) 5)
          have q19_2_M14 : id (M14 19 2 = M 19 2) := (congrFun (fM140 19 (by first | decide | omega | (dsimp only; omega))) 2)
          have q19_4_M14 : id (M14 19 4 = M 19 4) := (congrFun (fM140 19 (by first | decide | omega | (dsimp only; omega))) 4)
          have q19_6_M14 : id (M14 19 6 = M 19 6) := (congrFun (fM140 19 (by first | decide | omega | (dsimp only; omega))) 6)
          have q29_0_M14 : id (M14 29 0 = M 29 0) := (congrFun (fM140 29 (by first | decide | omega | (dsimp only; omega))) 0)
          have q29_1_M14 : id (M14 29 1 = M 29 1) := (congrFun (fM140 29 (by first | decide | omega | (dsimp only; omega))) 1)
          have q31_1_M14 : id (M14 31 1 = M 31 1) := (congrFun (fM140 31 (by first | decide | omega | (dsimp only; omega))) 1)
          have q0_11_M14 : id (M14 0 11 = M 0 11) := (congrFun (fM140 0 (by first | decide | omega | (dsimp only; omega))) 11)
          have q0_12_M14 : id (M14 0 12 = M 0 12) := (congrFun (fM140 0 (by first | decide | omega | (dsimp only; omega))) 12)
          have q0_13_M14 : id (M14 0 13 = M 0 13) := (congrFun (fM140 0 (by first | decide | omega | (dsimp only; omega))) 13)
          have q0_10_M14 : id (M14 0 10 = M 0 10) := (congrFun (fM140 0 (by first | decide | omega | (dsimp only; omega))) 10)
          have q1_4_M14 : (M14 1 4 = M 1 4) := (congrFun (fM140 1 (by first | decide | omega | (dsimp only; omega))) 4)
          have wM14_1_4 : M14 1 4 = M 1 4 := (congrFun (fM140 1 (by first | decide | omega | (dsimp only; omega))) 4)
          refine g_aload_n (pc' := 72) 0 dX9_addTasting_71 rfl rfl ?_
          refine g_getR (pc' := 75) dX9_addTasting_72 rfl f_X9_12 rfl rfl ?_
          refine g_dup (pc' := 76) dX9_addTasting_75 rfl rfl ?_
          refine g_getI (pc' := 79) dX9_addTasting_76 rfl f_X9_213 rfl rfl (fun v15 ev15 rv15 => ?_)
          have bv15 : 0 ≤ v15 ∧ v15 ≤ 6 := by rw [ev15]; exact iM14.2.1.1.2.1
          have av15 : v15 = M 1 4 := ev15.trans q1_4_M14
          obtain rfl : v10 = v15 := av10.trans av15.symm
          refine g_iconst (pc' := 80) dX9_addTasting_79 rfl ?_
          refine g_iadd (pc' := 81) dX9_addTasting_80 rfl ?_
          refine g_putI (pc' := 84) dX9_addTasting_81 rfl p_X9_213 rfl rfl ⟨by omega, by omega⟩ (fun M16 hM16 => ?_)
          have iM16 : IC M16 := IC.wr iM14 hM16 (by unfold okw isT; first | decide | omega)
          have fM16 : Fr (fun c => c = 1 ∨ c = 8) M M16 := Fr.wr fM14 hM16 (by first | decide | omega | (dsimp only; omega))
          have q2_5_M16 : id (M16 2 5 = M 2 5) := (show M16 2 5 = M14 2 5 by rw [hM16]; exact mu_ne _ _ (by first | decide | omega)).trans q2_5_M14
          have q1_2_M16 : id (M16 1 2 = M 1 2) := (show M16 1 2 = M14 1 2 by rw [hM16]; exact mu_ne _ _ (by first | decide | omega)).trans q1_2_M14
          have q1_6_M16 : id (M16 1 6 = M 1 6) := (show M16 1 6 = M14 1 6 by rw [hM16]; exact mu_ne _ _ (by first | decide | omega)).trans q1_6_M14
          have q11_5_M16 : id (M16 11 5 = M 11 5) := (show M16 11 5 = M14 11 5 by rw [hM16]; exact mu_ne _ _ (by first | decide | omega)).trans q11_5_M14
          have q10_2_M16 : id (M16 10 2 = M 10 2) := (show M16 10 2 = M14 10 2 by rw [hM16]; exact mu_ne _ _ (by first | decide | omega)).trans q10_2_M14
          have q10_4_M16 : id (M16 10 4 = M 10 4) := (show M16 10 4 = M14 10 4 by rw [hM16]; exact mu_ne _ _ (by first | decide | omega)).trans q10_4_M14
          have q10_6_M16 : id (M16 10 6 = M 10 6) := (show M16 10 6 = M14 10 6 by rw [hM16]; exact mu_ne _ _ (by first | decide | omega)).trans q10_6_M14
          have q20_5_M16 : id (M16 20 5 = M 20 5) := (show M16 20 5 = M14 20 5 by rw [hM16]; exact mu_ne _ _ (by first | decide | omega)).trans q20_5_M14
          have q19_2_M16 : id (M16 19 2 = M 19 2) := (show M16 19 2 = M14 19 2 by rw [hM16]; exact mu_ne _ _ (by first | decide | omega)).trans q19_2_M14
          have q19_4_M16 : id (M16 19 4 = M 19 4) := (show M16 19 4 = M14 19 4 by rw [hM16]; exact mu_ne _ _ (by first | decide | omega)).trans q19_4_M14
          have q19_6_M16 : id (M16 19 6 = M 19 6) := (show M16 19 6 = M14 19 6 by rw [hM16]; exact mu_ne _ _ (by first | decide | omega)).trans q19_6_M14
          have q29_0_M16 : id (M16 29 0 = M 29 0) := (show M16 29 0 = M14 29 0 by rw [hM16]; exact mu_ne _ _ (by first | decide | omega)).trans q29_0_M14
          have q29_1_M16 : id (M16 29 1 = M 29 1) := (show M16 29 1 = M14 29 1 by rw [hM16]; exact mu_ne _ _ (by first | decide | omega)).trans q29_1_M14
          have q31_1_M16 : id (M16 31 1 = M 31 1) := (show M16 31 1 = M14 31 1 by rw [hM16]; exact mu_ne _ _ (by first | decide | omega)).trans q31_1_M14
          have q0_11_M16 : id (M16 0 11 = M 0 11) := (show M16 0 11 = M14 0 11 by rw [hM16]; exact mu_ne _ _ (by first | decide | omega)).trans q0_11_M14
          have q0_12_M16 : id (M16 0 12 = M 0 12) := (show M16 0 12 = M14 0 12 by rw [hM16]; exact mu_ne _ _ (by first | decide | omega)).trans q0_12_M14
          have q0_13_M16 : id (M16 0 13 = M 0 13) := (show M16 0 13 = M14 0 13 by rw [hM16]; exact mu_ne _ _ (by first | decide | omega)).trans q0_13_M14
          have q0_10_M16 : id (M16 0 10 = M 0 10) := (show M16 0 10 = M14 0 10 by rw [hM16]; exact mu_ne _ _ (by first | decide | omega)).trans q0_10_M14
          have xM16_1_4 : M16 1 4 = v10 + 1 := by rw [hM16]; exact mu_at _ _ _ _
          refine g_aload_n (pc' := 85) 0 dX9_addTasting_84 rfl rfl ?_
          refine g_getR (pc' := 88) dX9_addTasting_85 rfl f_X9_12 rfl rfl ?_
          refine g_getI (pc' := 91) dX9_addTasting_88 rfl f_X9_213 rfl rfl (fun v17 ev17 rv17 => ?_)
          have bv17 : 0 ≤ v17 ∧ v17 ≤ 6 := by rw [ev17]; exact iM16.2.1.1.2.1
          have yv17 : v17 = v10 + 1 := ev17.trans xM16_1_4
          refine g_ireturn dX9_addTasting_91 ?_
          exact ⟨iM16, fM16, q2_5_M16, q1_2_M16, q1_6_M16, q11_5_M16, q10_2_M16, q10_4_M16, q10_6_M16, q20_5_M16, q19_2_M16, q19_4_M16, q19_6_M16, q29_0_M16, q29_1_M16, q31_1_M16, q0_11_M16, q0_12_M16, q0_13_M16, q0_10_M16, by omega⟩
        · refine g_bipush (pc' := 50) (v := (-5)) dX9_addTasting_48 rfl (by decide) ?_
          refine g_ireturn dX9_addTasting_50 ?_
          exact ⟨hi, Fr.rf, rfl, rfl, rfl, rfl, rfl, rfl, rfl, rfl, rfl, rfl, rfl, rfl, rfl, rfl, rfl, rfl, rfl, rfl, by omega⟩
      · replace q7 := q7.resolve_left (fun h => absurd (c9.symm.trans h.1) (by decide))
        refine g_bipush (pc' := 35) (v := (-2)) dX9_addTasting_33 rfl (by decide) ?_
        refine g_ireturn dX9_addTasting_35 ?_
        exact ⟨hi, Fr.rf, rfl, rfl, rfl, rfl, rfl, rfl, rfl, rfl, rfl, rfl, rfl, rfl, rfl, rfl, rfl, rfl, rfl, rfl, by omega⟩
    · replace q4 := q4.resolve_left (fun h => absurd (c6.symm.trans h.1) (by decide))
      refine g_iconst (pc' := 18) dX9_addTasting_17 rfl ?_
      refine g_ireturn dX9_addTasting_18 ?_
      exact ⟨hi, Fr.rf, rfl, rfl, rfl, rfl, rfl, rfl, rfl, rfl, rfl, rfl, rfl, rfl, rfl, rfl, rfl, rfl, rfl, rfl, by omega⟩
set_option maxHeartbeats 4000000 in
set_option maxRecDepth 100000 in
theorem c_X9_fits (X : Cx) (M : Mm) (hi : IC M) (a : Int) (ha : inI a) (b : Int) (hb : inI b) (c : Int) (hc : inI c) : Con X 20 yX9_fits cX9_fits 5 (some .int) [vr X 0, vi a, vi b, vi c] M (Qi (fun r M1 => IC M1 ∧ Fr (fun c => (60 ≤ c ∧ c ≤ 83)) M M1 ∧ M1 2 5 = M 2 5 ∧ M1 1 2 = M 1 2 ∧ M1 1 4 = M 1 4 ∧ M1 1 6 = M 1 6 ∧ M1 11 5 = M 11 5 ∧ M1 10 2 = M 10 2 ∧ M1 10 4 = M 10 4 ∧ M1 10 6 = M 10 6 ∧ M1 20 5 = M 20 5 ∧ M1 19 2 = M 19 2 ∧ M1 19 4 = M 19 4 ∧ M1 19 6 = M 19 6 ∧ M1 29 0 = M 29 0 ∧ M1 29 1 = M 29 1 ∧ M1 31 1 = M 31 1 ∧ M1 0 11 = M 0 11 ∧ M1 0 12 = M 0 12 ∧ M1 0 13 = M 0 13 ∧ M1 0 10 = M 0 10 ∧ (inI r))) := by
  refine Con.ofG rfl (Nat.le_of_ble_eq_true rfl) ?_
  show G X 20 RX9 cX9_fits 5 (some .int) (Qi (fun r M1 => IC M1 ∧ Fr (fun c => (60 ≤ c ∧ c ≤ 83)) M M1 ∧ M1 2 5 = M 2 5 ∧ M1 1 2 = M 1 2 ∧ M1 1 4 = M 1 4 ∧ M1 1 6 = M 1 6 ∧ M1 11 5 = M 11 5 ∧ M1 10 2 = M 10 2 ∧ M1 10 4 = M 10 4 ∧ M1 10 6 = M 10 6 ∧ M1 20 5 = M 20 5 ∧ M1 19 2 = M 19 2 ∧ M1 19 4 = M 19 4 ∧ M1 19 6 = M 19 6 ∧ M1 29 0 = M 29 0 ∧ M1 29 1 = M 29 1 ∧ M1 31 1 = M 31 1 ∧ M1 0 11 = M 0 11 ∧ M1 0 12 = M 0 12 ∧ M1 0 13 = M 0 13 ∧ M1 0 10 = M 0 10 ∧ (inI r))) 0 [(0, vr X 0), (1, vi a), (2, vi b), (3, vi c)] [] M
  refine g_iload_n (pc' := 1) 1 dX9_fits_0 rfl rfl ?_
  refine g_iconst (pc' := 2) dX9_fits_1 rfl ?_
  refine g_iconst (pc' := 3) dX9_fits_2 rfl ?_
  refine g_callSip (pc' := 6) (As := [vi a, vi 0, vi 3]) (S := []) dX9_fits_3 rfl m_X9_191 w_X9_isWithin (c_X9_isWithin X M a ha 0 (by decide) 3 (by decide)) rfl (by decide) (by decide) rfl (Nat.le_of_ble_eq_true rfl) (fun z2 q1 => ?_)
  refine g_if_ne (pc' := 9) (tgt := 11) ⟨by omega, by omega⟩ dX9_fits_6 rfl rfl (fun c3 => ?_) (fun c3 => ?_)
  · replace q1 := q1.resolve_right (fun h => c3 h.1)
    refine g_aload_n (pc' := 12) 0 dX9_fits_11 rfl rfl ?_
    refine g_getR (pc' := 15) dX9_fits_12 rfl f_X9_46 rfl rfl ?_
    refine g_aload_n (pc' := 16) 0 dX9_fits_15 rfl rfl ?_
    refine g_getR (pc' := 19) dX9_fits_16 rfl f_X9_12 rfl rfl ?_
    refine g_iload_n (pc' := 20) 1 dX9_fits_19 rfl rfl ?_
    refine g_callVi (pc' := 23) (As := [vr X 1, vi a]) (b := 60) (S := []) dX9_fits_20 rfl m_X9_233 w_X5_fitting (c_X5_fitting X M hi a ha) rfl ⟨_, _, _, rfl, rfl, rfl⟩ (by decide) (by decide) rfl (Nat.le_of_ble_eq_true rfl) (fun z5 M6 q4 => ?_)
    obtain ⟨iM6, fM60, pM6⟩ := q4
    have fM6 : Fr (fun c => (60 ≤ c ∧ c ≤ 83)) M M6 := Fr.tr Fr.rf fM60 fi_18
    have q2_5_M6 : id (M6 2 5 = M 2 5) := (congrFun (fM60 2 (by first | decide | omega | (dsimp only; omega))) 5)
    have q1_2_M6 : id (M6 1 2 = M 1 2) := (congrFun (fM60 1 (by first | decide | omega | (dsimp only; omega))) 2)
    have q1_4_M6 : id (M6 1 4 = M 1 4) := (congrFun (fM60 1 (by first | decide | omega | (dsimp only; omega))) 4)
    have q1_6_M6 : id (M6 1 6 = M 1 6) := (congrFun (fM60 1 (by first | decide | omega | (dsimp only; omega))) 6)
    have q11_5_M6 : id (M6 11 5 = M 11 5) := (congrFun (fM60 11 (by first | decide | omega | (dsimp only; omega))) 5)
    have q10_2_M6 : id (M6 10 2 = M 10 2) := (congrFun (fM60 10 (by first | decide | omega | (dsimp only; omega))) 2)
    have q10_4_M6 : id (M6 10 4 = M 10 4) := (congrFun (fM60 10 (by first | decide | omega | (dsimp only; omega))) 4)
    have q10_6_M6 : id (M6 10 6 = M 10 6) := (congrFun (fM60 10 (by first | decide | omega | (dsimp only; omega))) 6)
    have q20_5_M6 : id (M6 20 5 = M 20 5) := (congrFun (fM60 20 (by first | decide | omega | (dsimp only; omega))) 5)
    have q19_2_M6 : id (M6 19 2 = M 19 2) := (congrFun (fM60 19 (by first | decide | omega | (dsimp only; omega))) 2)
    have q19_4_M6 : id (M6 19 4 = M 19 4) := (congrFun (fM60 19 (by first | decide | omega | (dsimp only; omega))) 4)
    have q19_6_M6 : id (M6 19 6 = M 19 6) := (congrFun (fM60 19 (by first | decide | omega | (dsimp only; omega))) 6)
    have q29_0_M6 : id (M6 29 0 = M 29 0) := (congrFun (fM60 29 (by first | decide | omega | (dsimp only; omega))) 0)
    have q29_1_M6 : id (M6 29 1 = M 29 1) := (congrFun (fM60 29 (by first | decide | omega | (dsimp only; omega))) 1)
    have q31_1_M6 : id (M6 31 1 = M 31 1) := (congrFun (fM60 31 (by first | decide | omega | (dsimp only; omega))) 1)
    have q0_11_M6 : id (M6 0 11 = M 0 11) := (congrFun (fM60 0 (by first | decide | omega | (dsimp only; omega))) 11)
    have q0_12_M6 : id (M6 0 12 = M 0 12) := (congrFun (fM60 0 (by first | decide | omega | (dsimp only; omega))) 12)
    have q0_13_M6 : id (M6 0 13 = M 0 13) := (congrFun (fM60 0 (by first | decide | omega | (dsimp only; omega))) 13)
    have q0_10_M6 : id (M6 0 10 = M 0 10) := (congrFun (fM60 0 (by first | decide | omega | (dsimp only; omega))) 10)
    refine g_istore (pc' := 25) (L' := [(4, vi z5), (0, vr X 0), (1, vi a), (2, vi b), (3, vi c)]) dX9_fits_23 rfl (by decide) rfl ?_
    refine g_iload_n (pc' := 26) 3 dX9_fits_25 rfl rfl ?_
    refine g_iconst (pc' := 27) dX9_fits_26 rfl ?_
    refine g_ic_ne (pc' := 30) (tgt := 33) hb (by decide) dX9_fits_27 rfl rfl (fun c7 => ?_) (fun c7 => ?_)
    · refine g_iload (pc' := 35) 0 dX9_fits_33 rfl rfl ?_
      refine g_if_ne (pc' := 38) (tgt := 42) ⟨by omega, by omega⟩ dX9_fits_35 rfl rfl (fun c8 => ?_) (fun c8 => ?_)
      · refine g_aload_n (pc' := 43) 1 dX9_fits_42 rfl rfl ?_
        refine g_getR (pc' := 46) dX9_fits_43 rfl f_X9_46 rfl rfl ?_
        refine g_iload_n (pc' := 47) 2 dX9_fits_46 rfl rfl ?_
        refine g_iload_n (pc' := 48) 3 dX9_fits_47 rfl rfl ?_
        refine g_iload_n (pc' := 49) 4 dX9_fits_48 rfl rfl ?_
        refine g_callVip (pc' := 52) (As := [vi a, vi b, vi c]) (b := 60) (S := []) dX9_fits_49 rfl m_X9_220 w_X5_ofFirst (c_X5_ofFirst X M6 iM6 a ha b hb c hc) rfl ⟨_, _, _, rfl, rfl, rfl⟩ (by decide) (by decide) rfl (Nat.le_of_ble_eq_true rfl) (fun z10 q9 => ?_)
        refine g_ireturn dX9_fits_52 ?_
        exact ⟨iM6, fM6, q2_5_M6, q1_2_M6, q1_4_M6, q1_6_M6, q11_5_M6, q10_2_M6, q10_4_M6, q10_6_M6, q20_5_M6, q19_2_M6, q19_4_M6, q19_6_M6, q29_0_M6, q29_1_M6, q31_1_M6, q0_11_M6, q0_12_M6, q0_13_M6, q0_10_M6, by omega⟩
      · refine g_iconst (pc' := 39) dX9_fits_38 rfl ?_
        refine g_goto (tgt := 52) dX9_fits_39 rfl ?_
        refine g_ireturn dX9_fits_52 ?_
        exact ⟨iM6, fM6, q2_5_M6, q1_2_M6, q1_4_M6, q1_6_M6, q11_5_M6, q10_2_M6, q10_4_M6, q10_6_M6, q20_5_M6, q19_2_M6, q19_4_M6, q19_6_M6, q29_0_M6, q29_1_M6, q31_1_M6, q0_11_M6, q0_12_M6, q0_13_M6, q0_10_M6, by omega⟩
    · refine g_iload (pc' := 32) 0 dX9_fits_30 rfl rfl ?_
      refine g_ireturn dX9_fits_32 ?_
      exact ⟨iM6, fM6, q2_5_M6, q1_2_M6, q1_4_M6, q1_6_M6, q11_5_M6, q10_2_M6, q10_4_M6, q10_6_M6, q20_5_M6, q19_2_M6, q19_4_M6, q19_6_M6, q29_0_M6, q29_1_M6, q31_1_M6, q0_11_M6, q0_12_M6, q0_13_M6, q0_10_M6, by omega⟩
  · replace q1 := q1.resolve_left (fun h => absurd (c3.symm.trans h.1) (by decide))
    refine g_iconst (pc' := 10) dX9_fits_9 rfl ?_
    refine g_ireturn dX9_fits_10 ?_
    exact ⟨hi, Fr.rf, rfl, rfl, rfl, rfl, rfl, rfl, rfl, rfl, rfl, rfl, rfl, rfl, rfl, rfl, rfl, rfl, rfl, rfl, rfl, by omega⟩
set_option maxHeartbeats 4000000 in
set_option maxRecDepth 100000 in
theorem c_X9_addWine (X : Cx) (M : Mm) (hi : IC M) (a : Int) (ha : inI a) (b : Int) (hb : inI b) (c : Int) (hc : inI c) : Con X 3 yX9_addWine cX9_addWine 4 (some .int) [vr X 0, vi a, vi b, vi c] M (Qi (fun r M1 => IC M1 ∧ Fr (fun c => c = 1 ∨ c = 9) M M1 ∧ M1 2 5 = M 2 5 ∧ M1 1 2 = M 1 2 ∧ M1 1 4 = M 1 4 ∧ M1 11 5 = M 11 5 ∧ M1 10 2 = M 10 2 ∧ M1 10 4 = M 10 4 ∧ M1 10 6 = M 10 6 ∧ M1 20 5 = M 20 5 ∧ M1 19 2 = M 19 2 ∧ M1 19 4 = M 19 4 ∧ M1 19 6 = M 19 6 ∧ M1 29 0 = M 29 0 ∧ M1 29 1 = M 29 1 ∧ M1 31 1 = M 31 1 ∧ M1 0 11 = M 0 11 ∧ M1 0 12 = M 0 12 ∧ M1 0 13 = M 0 13 ∧ M1 0 10 = M 0 10 ∧ (((a < 0 ∨ 100 < a ∨ b < 0 ∨ 99 < b ∨ c < 0 ∨ 20 < c) → r = -1 ∧ M1 1 6 = M 1 6) ∧ (0 ≤ a → a ≤ 100 → 0 ≤ b → b ≤ 99 → 0 ≤ c → c ≤ 20 → 6 ≤ M 1 6 → r = -5 ∧ M1 1 6 = M 1 6) ∧ (0 ≤ a → a ≤ 100 → 0 ≤ b → b ≤ 99 → 0 ≤ c → c ≤ 20 → M 1 6 < 6 → r = M 1 6 ∧ M1 1 6 = M 1 6 + 1)))) := by
  refine Con.ofG rfl (Nat.le_of_ble_eq_true rfl) ?_
  show G X 3 RX9 cX9_addWine 4 (some .int) (Qi (fun r M1 => IC M1 ∧ Fr (fun c => c = 1 ∨ c = 9) M M1 ∧ M1 2 5 = M 2 5 ∧ M1 1 2 = M 1 2 ∧ M1 1 4 = M 1 4 ∧ M1 11 5 = M 11 5 ∧ M1 10 2 = M 10 2 ∧ M1 10 4 = M 10 4 ∧ M1 10 6 = M 10 6 ∧ M1 20 5 = M 20 5 ∧ M1 19 2 = M 19 2 ∧ M1 19 4 = M 19 4 ∧ M1 19 6 = M 19 6 ∧ M1 29 0 = M 29 0 ∧ M1 29 1 = M 29 1 ∧ M1 31 1 = M 31 1 ∧ M1 0 11 = M 0 11 ∧ M1 0 12 = M 0 12 ∧ M1 0 13 = M 0 13 ∧ M1 0 10 = M 0 10 ∧ (((a < 0 ∨ 100 < a ∨ b < 0 ∨ 99 < b ∨ c < 0 ∨ 20 < c) → r = -1 ∧ M1 1 6 = M 1 6) ∧ (0 ≤ a → a ≤ 100 → 0 ≤ b → b ≤ 99 → 0 ≤ c → c ≤ 20 → 6 ≤ M 1 6 → r = -5 ∧ M1 1 6 = M 1 6) ∧ (0 ≤ a → a ≤ 100 → 0 ≤ b → b ≤ 99 → 0 ≤ c → c ≤ 20 → M 1 6 < 6 → r = M 1 6 ∧ M1 1 6 = M 1 6 + 1)))) 0 [(0, vr X 0), (1, vi a), (2, vi b), (3, vi c)] [] M
  refine g_iload_n (pc' := 1) 1 dX9_addWine_0 rfl rfl ?_
  refine g_iconst (pc' := 2) dX9_addWine_1 rfl ?_
  refine g_bipush (pc' := 4) (v := 100) dX9_addWine_2 rfl (by decide) ?_
  refine g_callSip (pc' := 7) (As := [vi a, vi 0, vi 100]) (S := []) dX9_addWine_4 rfl m_X9_191 w_X9_isWithin (c_X9_isWithin X M a ha 0 (by decide) 100 (by decide)) rfl (by decide) (by decide) rfl (Nat.le_of_ble_eq_true rfl) (fun z2 q1 => ?_)
  refine g_if_eq (pc' := 10) (tgt := 30) ⟨by omega, by omega⟩ dX9_addWine_7 rfl rfl (fun c3 => ?_) (fun c3 => ?_)
  · replace q1 := q1.resolve_left (fun h => absurd (c3.symm.trans h.1) (by decide))
    refine g_iconst (pc' := 31) dX9_addWine_30 rfl ?_
    refine g_ireturn dX9_addWine_31 ?_
    exact ⟨hi, Fr.rf, rfl, rfl, rfl, rfl, rfl, rfl, rfl, rfl, rfl, rfl, rfl, rfl, rfl, rfl, rfl, rfl, rfl, rfl, by omega⟩
  · replace q1 := q1.resolve_right (fun h => c3 h.1)
    refine g_iload_n (pc' := 11) 2 dX9_addWine_10 rfl rfl ?_
    refine g_iconst (pc' := 12) dX9_addWine_11 rfl ?_
    refine g_bipush (pc' := 14) (v := 99) dX9_addWine_12 rfl (by decide) ?_
    refine g_callSip (pc' := 17) (As := [vi b, vi 0, vi 99]) (S := []) dX9_addWine_14 rfl m_X9_191 w_X9_isWithin (c_X9_isWithin X M b hb 0 (by decide) 99 (by decide)) rfl (by decide) (by decide) rfl (Nat.le_of_ble_eq_true rfl) (fun z5 q4 => ?_)
    refine g_if_eq (pc' := 20) (tgt := 30) ⟨by omega, by omega⟩ dX9_addWine_17 rfl rfl (fun c6 => ?_) (fun c6 => ?_)
    · replace q4 := q4.resolve_left (fun h => absurd (c6.symm.trans h.1) (by decide))
      refine g_iconst (pc' := 31) dX9_addWine_30 rfl ?_
      refine g_ireturn dX9_addWine_31 ?_
      exact ⟨hi, Fr.rf, rfl, rfl, rfl, rfl, rfl, rfl, rfl, rfl, rfl, rfl, rfl, rfl, rfl, rfl, rfl, rfl, rfl, rfl, by omega⟩
    · replace q4 := q4.resolve_right (fun h => c6 h.1)
      refine g_iload_n (pc' := 21) 3 dX9_addWine_20 rfl rfl ?_
      refine g_iconst (pc' := 22) dX9_addWine_21 rfl ?_
      refine g_bipush (pc' := 24) (v := 20) dX9_addWine_22 rfl (by decide) ?_
      refine g_callSip (pc' := 27) (As := [vi c, vi 0, vi 20]) (S := []) dX9_addWine_24 rfl m_X9_191 w_X9_isWithin (c_X9_isWithin X M c hc 0 (by decide) 20 (by decide)) rfl (by decide) (by decide) rfl (Nat.le_of_ble_eq_true rfl) (fun z8 q7 => ?_)
      refine g_if_ne (pc' := 30) (tgt := 32) ⟨by omega, by omega⟩ dX9_addWine_27 rfl rfl (fun c9 => ?_) (fun c9 => ?_)
      · replace q7 := q7.resolve_right (fun h => c9 h.1)
        refine g_aload_n (pc' := 33) 0 dX9_addWine_32 rfl rfl ?_
        refine g_getR (pc' := 36) dX9_addWine_33 rfl f_X9_12 rfl rfl ?_
        refine g_getI (pc' := 39) dX9_addWine_36 rfl f_X9_247 rfl rfl (fun v10 ev10 rv10 => ?_)
        have bv10 : 0 ≤ v10 ∧ v10 ≤ 6 := by rw [ev10]; exact hi.2.1.1.2.2
        have av10 : v10 = M 1 6 := ev10
        refine g_bipush (pc' := 41) (v := 6) dX9_addWine_39 rfl (by decide) ?_
        refine g_ic_lt (pc' := 44) (tgt := 47) rv10 (by decide) dX9_addWine_41 rfl rfl (fun c11 => ?_) (fun c11 => ?_)
        · refine g_aload_n (pc' := 48) 0 dX9_addWine_47 rfl rfl ?_
          refine g_getR (pc' := 51) dX9_addWine_48 rfl f_X9_12 rfl rfl ?_
          refine g_getR (pc' := 54) dX9_addWine_51 rfl f_X9_250 rfl rfl ?_
          refine g_aload_n (pc' := 55) 0 dX9_addWine_54 rfl rfl ?_
          refine g_getR (pc' := 58) dX9_addWine_55 rfl f_X9_12 rfl rfl ?_
          refine g_getI (pc' := 61) dX9_addWine_58 rfl f_X9_247 rfl rfl (fun v12 ev12 rv12 => ?_)
          obtain rfl : v10 = v12 := ev10.trans ev12.symm
          refine g_iload_n (pc' := 62) 1 dX9_addWine_61 rfl rfl ?_
          refine g_iload_n (pc' := 63) 2 dX9_addWine_62 rfl rfl ?_
          refine g_iload_n (pc' := 64) 3 dX9_addWine_63 rfl rfl ?_
          refine g_callSv (pc' := 67) (As := [vr X 9, vi v10, vi a, vi b, vi c]) (S := []) dX9_addWine_64 rfl m_X9_229 w_X9_putTriple (c_X9_putTriple X M hi 9 18 rfl (by unfold free isT; omega) v10 rv10 a ha b hb c hc ⟨by omega, by omega⟩) rfl (by decide) (by decide) rfl (Nat.le_of_ble_eq_true rfl) (fun M14 q13 => ?_)
          obtain ⟨iM14, fM140⟩ := q13
          have fM14 : Fr (fun c => c = 1 ∨ c = 9) M M14 := Fr.tr Fr.rf fM140 (fun c z => by first | omega | (dsimp only at z ⊢; omega))
          have q2_5_M14 : id (M14 2 5 = M 2 5) := (congrFun (fM140 2 (by first | decide | omega | (dsimp only; omega))) 5)
          have q1_2_M14 : id (M14 1 2 = M 1 2) := (congrFun (fM140 1 (by first | decide | omega | (dsimp only; omega))) 2)
          have q1_4_M14 : id (M14 1 4 = M 1 4) := (congrFun (fM140 1 (by first | decide | omega | (dsimp only; omega))) 4)
          have q11_5_M14 : id (M14 11 5 = M 11 5) := (congrFun (fM140 11 (by first | decide | omega | (dsimp only; omega))) 5)
          have q10_2_M14 : id (M14 10 2 = M 10 2) := (congrFun (fM140 10 (by first | decide | omega | (dsimp only; omega))) 2)
          have q10_4_M14 : id (M14 10 4 = M 10 4) := (congrFun (fM140 10 (by first | decide | omega | (dsimp only; omega))) 4)
          have q10_6_M14 : id (M14 10 6 = M 10 6) := (congrFun (fM140 10 (by first | decide | omega | (dsimp only; omega))) 6)
          have q20_5_M14 : id (M14 20 5 = M 20 5) := (congrFun (fM140 20 (by first | decide | omega | (dsimp only; omega))) 5)
          have q19_2_M14 : id (M14 19 2 = M 19 2) := (congrFun (fM140 19 (by first | decide | omega | (dsimp only; omega))) 2)
          have q19_4_M14 : id (M14 19 4 = M 19 4) := (congrFun (fM140 19 (by first | decide | omega | (dsimp only; omega))) 4)
          have q19_6_M14 : id (M14 19 6 = M 19 6) := (congrFun (fM140 19 (by first | decide | omega | (dsimp only; omega))) 6)
          have q29_0_M14 : id (M14 29 0 = M 29 0) := (congrFun (fM140 29 (by first | decide | omega | (dsimp only; omega))) 0)
          have q29_1_M14 : id (M14 29 1 = M 29 1) := (congrFun (fM140 29 (by first | decide | omega | (dsimp only; omega))) 1)
          have q31_1_M14 : id (M14 31 1 = M 31 1) := (congrFun (fM140 31 (by first | decide | omega | (dsimp only; omega))) 1)
          have q0_11_M14 : id (M14 0 11 = M 0 11) := (congrFun (fM140 0 (by first | decide | omega | (dsimp only; omega))) 11)
          have q0_12_M14 : id (M14 0 12 = M 0 12) := (congrFun (fM140 0 (by first | decide | omega | (dsimp only; omega))) 12)
          have q0_13_M14 : id (M14 0 13 = M 0 13) := (congrFun (fM140 0 (by first | decide | omega | (dsimp only; omega))) 13)
          have q0_10_M14 : id (M14 0 10 = M 0 10) := (congrFun (fM140 0 (by first | decide | omega | (dsimp only; omega))) 10)
          have q1_6_M14 : (M14 1 6 = M 1 6) := (congrFun (fM140 1 (by first | decide | omega | (dsimp only; omega))) 6)
          have wM14_1_6 : M14 1 6 = M 1 6 := (congrFun (fM140 1 (by first | decide | omega | (dsimp only; omega))) 6)
          refine g_aload_n (pc' := 68) 0 dX9_addWine_67 rfl rfl ?_
          refine g_getR (pc' := 71) dX9_addWine_68 rfl f_X9_12 rfl rfl ?_
          refine g_dup (pc' := 72) dX9_addWine_71 rfl rfl ?_
          refine g_getI (pc' := 75) dX9_addWine_72 rfl f_X9_247 rfl rfl (fun v15 ev15 rv15 => ?_)
          have bv15 : 0 ≤ v15 ∧ v15 ≤ 6 := by rw [ev15]; exact iM14.2.1.1.2.2
          have av15 : v15 = M 1 6 := ev15.trans q1_6_M14
          obtain rfl : v10 = v15 := av10.trans av15.symm
          refine g_iconst (pc' := 76) dX9_addWine_75 rfl ?_
          refine g_iadd (pc' := 77) dX9_addWine_76 rfl ?_
          refine g_putI (pc' := 80) dX9_addWine_77 rfl p_X9_247 rfl rfl ⟨by omega, by omega⟩ (fun M16 hM16 => ?_)
          have iM16 : IC M16 := IC.wr iM14 hM16 (by unfold okw isT; first | decide | omega)
          have fM16 : Fr (fun c => c = 1 ∨ c = 9) M M16 := Fr.wr fM14 hM16 (by first | decide | omega | (dsimp only; omega))
          have q2_5_M16 : id (M16 2 5 = M 2 5) := (show M16 2 5 = M14 2 5 by rw [hM16]; exact mu_ne _ _ (by first | decide | omega)).trans q2_5_M14
          have q1_2_M16 : id (M16 1 2 = M 1 2) := (show M16 1 2 = M14 1 2 by rw [hM16]; exact mu_ne _ _ (by first | decide | omega)).trans q1_2_M14
          have q1_4_M16 : id (M16 1 4 = M 1 4) := (show M16 1 4 = M14 1 4 by rw [hM16]; exact mu_ne _ _ (by first | decide | omega)).trans q1_4_M14
          have q11_5_M16 : id (M16 11 5 = M 11 5) := (show M16 11 5 = M14 11 5 by rw [hM16]; exact mu_ne _ _ (by first | decide | omega)).trans q11_5_M14
          have q10_2_M16 : id (M16 10 2 = M 10 2) := (show M16 10 2 = M14 10 2 by rw [hM16]; exact mu_ne _ _ (by first | decide | omega)).trans q10_2_M14
          have q10_4_M16 : id (M16 10 4 = M 10 4) := (show M16 10 4 = M14 10 4 by rw [hM16]; exact mu_ne _ _ (by first | decide | omega)).trans q10_4_M14
          have q10_6_M16 : id (M16 10 6 = M 10 6) := (show M16 10 6 = M14 10 6 by rw [hM16]; exact mu_ne _ _ (by first | decide | omega)).trans q10_6_M14
          have q20_5_M16 : id (M16 20 5 = M 20 5) := (show M16 20 5 = M14 20 5 by rw [hM16]; exact mu_ne _ _ (by first | decide | omega)).trans q20_5_M14
          have q19_2_M16 : id (M16 19 2 = M 19 2) := (show M16 19 2 = M14 19 2 by rw [hM16]; exact mu_ne _ _ (by first | decide | omega)).trans q19_2_M14
          have q19_4_M16 : id (M16 19 4 = M 19 4) := (show M16 19 4 = M14 19 4 by rw [hM16]; exact mu_ne _ _ (by first | decide | omega)).trans q19_4_M14
          have q19_6_M16 : id (M16 19 6 = M 19 6) := (show M16 19 6 = M14 19 6 by rw [hM16]; exact mu_ne _ _ (by first | decide | omega)).trans q19_6_M14
          have q29_0_M16 : id (M16 29 0 = M 29 0) := (show M16 29 0 = M14 29 0 by rw [hM16]; exact mu_ne _ _ (by first | decide | omega)).trans q29_0_M14
          have q29_1_M16 : id (M16 29 1 = M 29 1) := (show M16 29 1 = M14 29 1 by rw [hM16]; exact mu_ne _ _ (by first | decide | omega)).trans q29_1_M14
          have q31_1_M16 : id (M16 31 1 = M 31 1) := (show M16 31 1 = M14 31 1 by rw [hM16]; exact mu_ne _ _ (by first | decide | omega)).trans q31_1_M14
          have q0_11_M16 : id (M16 0 11 = M 0 11) := (show M16 0 11 = M14 0 11 by rw [hM16]; exact mu_ne _ _ (by first | decide | omega)).trans q0_11_M14
          have q0_12_M16 : id (M16 0 12 = M 0 12) := (show M16 0 12 = M14 0 12 by rw [hM16]; exact mu_ne _ _ (by first | decide | omega)).trans q0_12_M14
          have q0_13_M16 : id (M16 0 13 = M 0 13) := (show M16 0 13 = M14 0 13 by rw [hM16]; exact mu_ne _ _ (by first | decide | omega)).trans q0_13_M14
          have q0_10_M16 : id (M16 0 10 = M 0 10) := (show M16 0 10 = M14 0 10 by rw [hM16]; exact mu_ne _ _ (by first | decide | omega)).trans q0_10_M14
          have xM16_1_6 : M16 1 6 = v10 + 1 := by rw [hM16]; exact mu_at _ _ _ _
          refine g_aload_n (pc' := 81) 0 dX9_addWine_80 rfl rfl ?_
          refine g_getR (pc' := 84) dX9_addWine_81 rfl f_X9_12 rfl rfl ?_
          refine g_getI (pc' := 87) dX9_addWine_84 rfl f_X9_247 rfl rfl (fun v17 ev17 rv17 => ?_)
          have bv17 : 0 ≤ v17 ∧ v17 ≤ 6 := by rw [ev17]; exact iM16.2.1.1.2.2
          have yv17 : v17 = v10 + 1 := ev17.trans xM16_1_6
          refine g_iconst (pc' := 88) dX9_addWine_87 rfl ?_
          refine g_isub (pc' := 89) dX9_addWine_88 rfl ?_
          refine g_ireturn dX9_addWine_89 ?_
          exact ⟨iM16, fM16, q2_5_M16, q1_2_M16, q1_4_M16, q11_5_M16, q10_2_M16, q10_4_M16, q10_6_M16, q20_5_M16, q19_2_M16, q19_4_M16, q19_6_M16, q29_0_M16, q29_1_M16, q31_1_M16, q0_11_M16, q0_12_M16, q0_13_M16, q0_10_M16, by omega⟩
        · refine g_bipush (pc' := 46) (v := (-5)) dX9_addWine_44 rfl (by decide) ?_
          refine g_ireturn dX9_addWine_46 ?_
          exact ⟨hi, Fr.rf, rfl, rfl, rfl, rfl, rfl, rfl, rfl, rfl, rfl, rfl, rfl, rfl, rfl, rfl, rfl, rfl, rfl, rfl, by omega⟩
      · replace q7 := q7.resolve_left (fun h => absurd (c9.symm.trans h.1) (by decide))
        refine g_iconst (pc' := 31) dX9_addWine_30 rfl ?_
        refine g_ireturn dX9_addWine_31 ?_
        exact ⟨hi, Fr.rf, rfl, rfl, rfl, rfl, rfl, rfl, rfl, rfl, rfl, rfl, rfl, rfl, rfl, rfl, rfl, rfl, rfl, rfl, by omega⟩
set_option maxHeartbeats 4000000 in
set_option maxRecDepth 100000 in
theorem l_X9_removeWine_22 (X : Cx) (M : Mm) (hi : IC M) (a : Int) (ha : inI a) : ∀ (kk : Nat) (i : Int) (M1 : Mm) (ic1 : IC M1) (fr1 : Fr (fun c => c = 1 ∨ c = 9) M M1) (q2_5 : id (M1 2 5 = M 2 5)) (q1_2 : id (M1 1 2 = M 1 2)) (q1_4 : id (M1 1 4 = M 1 4)) (q11_5 : id (M1 11 5 = M 11 5)) (q10_2 : id (M1 10 2 = M 10 2)) (q10_4 : id (M1 10 4 = M 10 4)) (q10_6 : id (M1 10 6 = M 10 6)) (q20_5 : id (M1 20 5 = M 20 5)) (q19_2 : id (M1 19 2 = M 19 2)) (q19_4 : id (M1 19 4 = M 19 4)) (q19_6 : id (M1 19 6 = M 19 6)) (q29_0 : id (M1 29 0 = M 29 0)) (q29_1 : id (M1 29 1 = M 29 1)) (q31_1 : id (M1 31 1 = M 31 1)) (q0_11 : id (M1 0 11 = M 0 11)) (q0_12 : id (M1 0 12 = M 0 12)) (q0_13 : id (M1 0 13 = M 0 13)) (q0_10 : id (M1 0 10 = M 0 10)) (q1_6 : (M1 1 6 = M 1 6)) (a0 : 0 ≤ a ∧ a < M 1 6) (h0 : 0 ≤ i) (h1 : i ≤ 18), (18 - i).toNat = kk → G X 3 RX9 cX9_removeWine 3 (some .int) (Qi (fun r M1 => IC M1 ∧ Fr (fun c => c = 1 ∨ c = 9) M M1 ∧ M1 2 5 = M 2 5 ∧ M1 1 2 = M 1 2 ∧ M1 1 4 = M 1 4 ∧ M1 11 5 = M 11 5 ∧ M1 10 2 = M 10 2 ∧ M1 10 4 = M 10 4 ∧ M1 10 6 = M 10 6 ∧ M1 20 5 = M 20 5 ∧ M1 19 2 = M 19 2 ∧ M1 19 4 = M 19 4 ∧ M1 19 6 = M 19 6 ∧ M1 29 0 = M 29 0 ∧ M1 29 1 = M 29 1 ∧ M1 31 1 = M 31 1 ∧ M1 0 11 = M 0 11 ∧ M1 0 12 = M 0 12 ∧ M1 0 13 = M 0 13 ∧ M1 0 10 = M 0 10 ∧ (((a < 0 ∨ M 1 6 ≤ a) → r = -2 ∧ M1 1 6 = M 1 6) ∧ (0 ≤ a → a < M 1 6 → r = M 1 6 - 1 ∧ M1 1 6 = M 1 6 - 1)))) 22 [(2, vi i), (0, vr X 0), (1, vi a)] [] M1 := by
  intro kk
  induction kk using Nat.strongRecOn with
  | ind kk ih =>
    intro i M1 ic1 fr1 q2_5 q1_2 q1_4 q11_5 q10_2 q10_4 q10_6 q20_5 q19_2 q19_4 q19_6 q29_0 q29_1 q31_1 q0_11 q0_12 q0_13 q0_10 q1_6 a0 h0 h1 hmes
    refine g_iload_n (pc' := 23) 0 dX9_removeWine_22 rfl rfl ?_
    refine g_iconst (pc' := 24) dX9_removeWine_23 rfl ?_
    refine g_iadd (pc' := 25) dX9_removeWine_24 rfl ?_
    refine g_iconst (pc' := 26) dX9_removeWine_25 rfl ?_
    refine g_aload_n (pc' := 27) 1 dX9_removeWine_26 rfl rfl ?_
    refine g_getR (pc' := 30) dX9_removeWine_27 rfl f_X9_12 rfl rfl ?_
    refine g_getI (pc' := 33) dX9_removeWine_30 rfl f_X9_247 rfl rfl (fun v1 ev1 rv1 => ?_)
    have bv1 : 0 ≤ v1 ∧ v1 ≤ 6 := by rw [ev1]; exact ic1.2.1.1.2.2
    have av1 : v1 = M 1 6 := ev1.trans q1_6
    refine g_imul (pc' := 34) dX9_removeWine_33 rfl ?_
    refine g_ic_ge (pc' := 37) (tgt := 63) ⟨by omega, by omega⟩ ⟨by omega, by omega⟩ dX9_removeWine_34 rfl rfl (fun c2 => ?_) (fun c2 => ?_)
    · refine g_aload_n (pc' := 64) 1 dX9_removeWine_63 rfl rfl ?_
      refine g_getR (pc' := 67) dX9_removeWine_64 rfl f_X9_12 rfl rfl ?_
      refine g_dup (pc' := 68) dX9_removeWine_67 rfl rfl ?_
      refine g_getI (pc' := 71) dX9_removeWine_68 rfl f_X9_247 rfl rfl (fun v3 ev3 rv3 => ?_)
      obtain rfl : v1 = v3 := ev1.trans ev3.symm
      refine g_iconst (pc' := 72) dX9_removeWine_71 rfl ?_
      refine g_isub (pc' := 73) dX9_removeWine_72 rfl ?_
      refine g_putI (pc' := 76) dX9_removeWine_73 rfl p_X9_247 rfl rfl ⟨by omega, by omega⟩ (fun M4 hM4 => ?_)
      have iM4 : IC M4 := IC.wr ic1 hM4 (by unfold okw isT; first | decide | omega)
      have fM4 : Fr (fun c => c = 1 ∨ c = 9) M M4 := Fr.wr fr1 hM4 (by first | decide | omega | (dsimp only; omega))
      have q2_5_M4 : id (M4 2 5 = M 2 5) := (show M4 2 5 = M1 2 5 by rw [hM4]; exact mu_ne _ _ (by first | decide | omega)).trans q2_5
      have q1_2_M4 : id (M4 1 2 = M 1 2) := (show M4 1 2 = M1 1 2 by rw [hM4]; exact mu_ne _ _ (by first | decide | omega)).trans q1_2
      have q1_4_M4 : id (M4 1 4 = M 1 4) := (show M4 1 4 = M1 1 4 by rw [hM4]; exact mu_ne _ _ (by first | decide | omega)).trans q1_4
      have q11_5_M4 : id (M4 11 5 = M 11 5) := (show M4 11 5 = M1 11 5 by rw [hM4]; exact mu_ne _ _ (by first | decide | omega)).trans q11_5
      have q10_2_M4 : id (M4 10 2 = M 10 2) := (show M4 10 2 = M1 10 2 by rw [hM4]; exact mu_ne _ _ (by first | decide | omega)).trans q10_2
      have q10_4_M4 : id (M4 10 4 = M 10 4) := (show M4 10 4 = M1 10 4 by rw [hM4]; exact mu_ne _ _ (by first | decide | omega)).trans q10_4
      have q10_6_M4 : id (M4 10 6 = M 10 6) := (show M4 10 6 = M1 10 6 by rw [hM4]; exact mu_ne _ _ (by first | decide | omega)).trans q10_6
      have q20_5_M4 : id (M4 20 5 = M 20 5) := (show M4 20 5 = M1 20 5 by rw [hM4]; exact mu_ne _ _ (by first | decide | omega)).trans q20_5
      have q19_2_M4 : id (M4 19 2 = M 19 2) := (show M4 19 2 = M1 19 2 by rw [hM4]; exact mu_ne _ _ (by first | decide | omega)).trans q19_2
      have q19_4_M4 : id (M4 19 4 = M 19 4) := (show M4 19 4 = M1 19 4 by rw [hM4]; exact mu_ne _ _ (by first | decide | omega)).trans q19_4
      have q19_6_M4 : id (M4 19 6 = M 19 6) := (show M4 19 6 = M1 19 6 by rw [hM4]; exact mu_ne _ _ (by first | decide | omega)).trans q19_6
      have q29_0_M4 : id (M4 29 0 = M 29 0) := (show M4 29 0 = M1 29 0 by rw [hM4]; exact mu_ne _ _ (by first | decide | omega)).trans q29_0
      have q29_1_M4 : id (M4 29 1 = M 29 1) := (show M4 29 1 = M1 29 1 by rw [hM4]; exact mu_ne _ _ (by first | decide | omega)).trans q29_1
      have q31_1_M4 : id (M4 31 1 = M 31 1) := (show M4 31 1 = M1 31 1 by rw [hM4]; exact mu_ne _ _ (by first | decide | omega)).trans q31_1
      have q0_11_M4 : id (M4 0 11 = M 0 11) := (show M4 0 11 = M1 0 11 by rw [hM4]; exact mu_ne _ _ (by first | decide | omega)).trans q0_11
      have q0_12_M4 : id (M4 0 12 = M 0 12) := (show M4 0 12 = M1 0 12 by rw [hM4]; exact mu_ne _ _ (by first | decide | omega)).trans q0_12
      have q0_13_M4 : id (M4 0 13 = M 0 13) := (show M4 0 13 = M1 0 13 by rw [hM4]; exact mu_ne _ _ (by first | decide | omega)).trans q0_13
      have q0_10_M4 : id (M4 0 10 = M 0 10) := (show M4 0 10 = M1 0 10 by rw [hM4]; exact mu_ne _ _ (by first | decide | omega)).trans q0_10
      have xM4_1_6 : M4 1 6 = v1 - 1 := by rw [hM4]; exact mu_at _ _ _ _
      refine g_aload_n (pc' := 77) 1 dX9_removeWine_76 rfl rfl ?_
      refine g_getR (pc' := 80) dX9_removeWine_77 rfl f_X9_12 rfl rfl ?_
      refine g_getI (pc' := 83) dX9_removeWine_80 rfl f_X9_247 rfl rfl (fun v5 ev5 rv5 => ?_)
      have bv5 : 0 ≤ v5 ∧ v5 ≤ 6 := by rw [ev5]; exact iM4.2.1.1.2.2
      have yv5 : v5 = v1 - 1 := ev5.trans xM4_1_6
      refine g_ireturn dX9_removeWine_83 ?_
      exact ⟨iM4, fM4, q2_5_M4, q1_2_M4, q1_4_M4, q11_5_M4, q10_2_M4, q10_4_M4, q10_6_M4, q20_5_M4, q19_2_M4, q19_4_M4, q19_6_M4, q29_0_M4, q29_1_M4, q31_1_M4, q0_11_M4, q0_12_M4, q0_13_M4, q0_10_M4, by omega⟩
    · refine g_aload_n (pc' := 38) 1 dX9_removeWine_37 rfl rfl ?_
      refine g_getR (pc' := 41) dX9_removeWine_38 rfl f_X9_12 rfl rfl ?_
      refine g_getR (pc' := 44) dX9_removeWine_41 rfl f_X9_250 rfl rfl ?_
      refine g_iload_n (pc' := 45) 0 dX9_removeWine_44 rfl rfl ?_
      refine g_aload_n (pc' := 46) 1 dX9_removeWine_45 rfl rfl ?_
      refine g_getR (pc' := 49) dX9_removeWine_46 rfl f_X9_12 rfl rfl ?_
      refine g_getR (pc' := 52) dX9_removeWine_49 rfl f_X9_250 rfl rfl ?_
      refine g_iload_n (pc' := 53) 0 dX9_removeWine_52 rfl rfl ?_
      refine g_iconst (pc' := 54) dX9_removeWine_53 rfl ?_
      refine g_iadd (pc' := 55) dX9_removeWine_54 rfl ?_
      refine g_iald (pc' := 56) dX9_removeWine_55 rfl rfl (by omega) (by omega) (fun v6 ev6 rv6 => ?_)
      refine g_iast (pc' := 57) dX9_removeWine_56 rfl rfl (by omega) (by omega) rv6 (fun M7 hM7 => ?_)
      have iM7 : IC M7 := IC.wr ic1 hM7 (by unfold okw isT; first | decide | omega)
      have fM7 : Fr (fun c => c = 1 ∨ c = 9) M M7 := Fr.wr fr1 hM7 (by first | decide | omega | (dsimp only; omega))
      have q2_5_M7 : id (M7 2 5 = M 2 5) := (show M7 2 5 = M1 2 5 by rw [hM7]; exact mu_ne _ _ (by first | decide | omega)).trans q2_5
      have q1_2_M7 : id (M7 1 2 = M 1 2) := (show M7 1 2 = M1 1 2 by rw [hM7]; exact mu_ne _ _ (by first | decide | omega)).trans q1_2
      have q1_4_M7 : id (M7 1 4 = M 1 4) := (show M7 1 4 = M1 1 4 by rw [hM7]; exact mu_ne _ _ (by first | decide | omega)).trans q1_4
      have q11_5_M7 : id (M7 11 5 = M 11 5) := (show M7 11 5 = M1 11 5 by rw [hM7]; exact mu_ne _ _ (by first | decide | omega)).trans q11_5
      have q10_2_M7 : id (M7 10 2 = M 10 2) := (show M7 10 2 = M1 10 2 by rw [hM7]; exact mu_ne _ _ (by first | decide | omega)).trans q10_2
      have q10_4_M7 : id (M7 10 4 = M 10 4) := (show M7 10 4 = M1 10 4 by rw [hM7]; exact mu_ne _ _ (by first | decide | omega)).trans q10_4
      have q10_6_M7 : id (M7 10 6 = M 10 6) := (show M7 10 6 = M1 10 6 by rw [hM7]; exact mu_ne _ _ (by first | decide | omega)).trans q10_6
      have q20_5_M7 : id (M7 20 5 = M 20 5) := (show M7 20 5 = M1 20 5 by rw [hM7]; exact mu_ne _ _ (by first | decide | omega)).trans q20_5
      have q19_2_M7 : id (M7 19 2 = M 19 2) := (show M7 19 2 = M1 19 2 by rw [hM7]; exact mu_ne _ _ (by first | decide | omega)).trans q19_2
      have q19_4_M7 : id (M7 19 4 = M 19 4) := (show M7 19 4 = M1 19 4 by rw [hM7]; exact mu_ne _ _ (by first | decide | omega)).trans q19_4
      have q19_6_M7 : id (M7 19 6 = M 19 6) := (show M7 19 6 = M1 19 6 by rw [hM7]; exact mu_ne _ _ (by first | decide | omega)).trans q19_6
      have q29_0_M7 : id (M7 29 0 = M 29 0) := (show M7 29 0 = M1 29 0 by rw [hM7]; exact mu_ne _ _ (by first | decide | omega)).trans q29_0
      have q29_1_M7 : id (M7 29 1 = M 29 1) := (show M7 29 1 = M1 29 1 by rw [hM7]; exact mu_ne _ _ (by first | decide | omega)).trans q29_1
      have q31_1_M7 : id (M7 31 1 = M 31 1) := (show M7 31 1 = M1 31 1 by rw [hM7]; exact mu_ne _ _ (by first | decide | omega)).trans q31_1
      have q0_11_M7 : id (M7 0 11 = M 0 11) := (show M7 0 11 = M1 0 11 by rw [hM7]; exact mu_ne _ _ (by first | decide | omega)).trans q0_11
      have q0_12_M7 : id (M7 0 12 = M 0 12) := (show M7 0 12 = M1 0 12 by rw [hM7]; exact mu_ne _ _ (by first | decide | omega)).trans q0_12
      have q0_13_M7 : id (M7 0 13 = M 0 13) := (show M7 0 13 = M1 0 13 by rw [hM7]; exact mu_ne _ _ (by first | decide | omega)).trans q0_13
      have q0_10_M7 : id (M7 0 10 = M 0 10) := (show M7 0 10 = M1 0 10 by rw [hM7]; exact mu_ne _ _ (by first | decide | omega)).trans q0_10
      have q1_6_M7 : (M7 1 6 = M 1 6) := (show M7 1 6 = M1 1 6 by rw [hM7]; exact mu_ne _ _ (by first | decide | omega)).trans q1_6
      have wM7_1_6 : M7 1 6 = M1 1 6 := by rw [hM7]; exact mu_ne _ _ (by first | decide | omega)
      refine g_iinc (pc' := 60) (L' := [(2, vi (i + 1)), (0, vr X 0), (1, vi a)]) 0 dX9_removeWine_57 rfl rfl (by decide) rfl ?_
      refine g_goto (tgt := 22) dX9_removeWine_60 rfl ?_
      refine g_sub [0, 1, 2] rfl ?_
      exact ih _ (by omega) (i + 1) M7 iM7 fM7 q2_5_M7 q1_2_M7 q1_4_M7 q11_5_M7 q10_2_M7 q10_4_M7 q10_6_M7 q20_5_M7 q19_2_M7 q19_4_M7 q19_6_M7 q29_0_M7 q29_1_M7 q31_1_M7 q0_11_M7 q0_12_M7 q0_13_M7 q0_10_M7 q1_6_M7 (by omega) (by omega) (by omega) rfl
set_option maxHeartbeats 4000000 in
set_option maxRecDepth 100000 in
theorem c_X9_removeWine (X : Cx) (M : Mm) (hi : IC M) (a : Int) (ha : inI a) : Con X 3 yX9_removeWine cX9_removeWine 3 (some .int) [vr X 0, vi a] M (Qi (fun r M1 => IC M1 ∧ Fr (fun c => c = 1 ∨ c = 9) M M1 ∧ M1 2 5 = M 2 5 ∧ M1 1 2 = M 1 2 ∧ M1 1 4 = M 1 4 ∧ M1 11 5 = M 11 5 ∧ M1 10 2 = M 10 2 ∧ M1 10 4 = M 10 4 ∧ M1 10 6 = M 10 6 ∧ M1 20 5 = M 20 5 ∧ M1 19 2 = M 19 2 ∧ M1 19 4 = M 19 4 ∧ M1 19 6 = M 19 6 ∧ M1 29 0 = M 29 0 ∧ M1 29 1 = M 29 1 ∧ M1 31 1 = M 31 1 ∧ M1 0 11 = M 0 11 ∧ M1 0 12 = M 0 12 ∧ M1 0 13 = M 0 13 ∧ M1 0 10 = M 0 10 ∧ (((a < 0 ∨ M 1 6 ≤ a) → r = -2 ∧ M1 1 6 = M 1 6) ∧ (0 ≤ a → a < M 1 6 → r = M 1 6 - 1 ∧ M1 1 6 = M 1 6 - 1)))) := by
  refine Con.ofG rfl (Nat.le_of_ble_eq_true rfl) ?_
  show G X 3 RX9 cX9_removeWine 3 (some .int) (Qi (fun r M1 => IC M1 ∧ Fr (fun c => c = 1 ∨ c = 9) M M1 ∧ M1 2 5 = M 2 5 ∧ M1 1 2 = M 1 2 ∧ M1 1 4 = M 1 4 ∧ M1 11 5 = M 11 5 ∧ M1 10 2 = M 10 2 ∧ M1 10 4 = M 10 4 ∧ M1 10 6 = M 10 6 ∧ M1 20 5 = M 20 5 ∧ M1 19 2 = M 19 2 ∧ M1 19 4 = M 19 4 ∧ M1 19 6 = M 19 6 ∧ M1 29 0 = M 29 0 ∧ M1 29 1 = M 29 1 ∧ M1 31 1 = M 31 1 ∧ M1 0 11 = M 0 11 ∧ M1 0 12 = M 0 12 ∧ M1 0 13 = M 0 13 ∧ M1 0 10 = M 0 10 ∧ (((a < 0 ∨ M 1 6 ≤ a) → r = -2 ∧ M1 1 6 = M 1 6) ∧ (0 ≤ a → a < M 1 6 → r = M 1 6 - 1 ∧ M1 1 6 = M 1 6 - 1)))) 0 [(0, vr X 0), (1, vi a)] [] M
  refine g_iload_n (pc' := 1) 1 dX9_removeWine_0 rfl rfl ?_
  refine g_if_lt (pc' := 4) (tgt := 15) ha dX9_removeWine_1 rfl rfl (fun c1 => ?_) (fun c1 => ?_)
  · refine g_bipush (pc' := 17) (v := (-2)) dX9_removeWine_15 rfl (by decide) ?_
    refine g_ireturn dX9_removeWine_17 ?_
    exact ⟨hi, Fr.rf, rfl, rfl, rfl, rfl, rfl, rfl, rfl, rfl, rfl, rfl, rfl, rfl, rfl, rfl, rfl, rfl, rfl, rfl, by omega⟩
  · refine g_iload_n (pc' := 5) 1 dX9_removeWine_4 rfl rfl ?_
    refine g_aload_n (pc' := 6) 0 dX9_removeWine_5 rfl rfl ?_
    refine g_getR (pc' := 9) dX9_removeWine_6 rfl f_X9_12 rfl rfl ?_
    refine g_getI (pc' := 12) dX9_removeWine_9 rfl f_X9_247 rfl rfl (fun v2 ev2 rv2 => ?_)
    have bv2 : 0 ≤ v2 ∧ v2 ≤ 6 := by rw [ev2]; exact hi.2.1.1.2.2
    have av2 : v2 = M 1 6 := ev2
    refine g_ic_lt (pc' := 15) (tgt := 18) ha rv2 dX9_removeWine_12 rfl rfl (fun c3 => ?_) (fun c3 => ?_)
    · refine g_iconst (pc' := 19) dX9_removeWine_18 rfl ?_
      refine g_iload_n (pc' := 20) 1 dX9_removeWine_19 rfl rfl ?_
      refine g_imul (pc' := 21) dX9_removeWine_20 rfl ?_
      obtain ⟨x4, ex4⟩ : ∃ z : Int, z = 3 * a := ⟨_, rfl⟩
      rw [← ex4]
      refine g_istore_n (pc' := 22) (i := 2) (L' := [(2, vi x4), (0, vr X 0), (1, vi a)]) dX9_removeWine_21 rfl rfl (by decide) rfl ?_
      refine g_sub [0, 1, 2] rfl ?_
      exact l_X9_removeWine_22 X M hi a ha _ x4 M hi Fr.rf rfl rfl rfl rfl rfl rfl rfl rfl rfl rfl rfl rfl rfl rfl rfl rfl rfl rfl rfl (by omega) (by omega) (by omega) rfl
    · refine g_bipush (pc' := 17) (v := (-2)) dX9_removeWine_15 rfl (by decide) ?_
      refine g_ireturn dX9_removeWine_17 ?_
      exact ⟨hi, Fr.rf, rfl, rfl, rfl, rfl, rfl, rfl, rfl, rfl, rfl, rfl, rfl, rfl, rfl, rfl, rfl, rfl, rfl, rfl, by omega⟩
set_option maxHeartbeats 4000000 in
set_option maxRecDepth 100000 in
theorem c_X9_mix (X : Cx) (M : Mm) (hi : IC M) (a : Int) (ha : inI a) (b : Int) (hb : inI b) (c : Int) (hc : inI c) : Con X 12 yX9_mix cX9_mix 5 (some .int) [vr X 0, vi a, vi b, vi c] M (Qi (fun r M1 => IC M1 ∧ Fr (fun c => (84 ≤ c ∧ c ≤ 90)) M M1 ∧ M1 2 5 = M 2 5 ∧ M1 1 2 = M 1 2 ∧ M1 1 4 = M 1 4 ∧ M1 1 6 = M 1 6 ∧ M1 11 5 = M 11 5 ∧ M1 10 2 = M 10 2 ∧ M1 10 4 = M 10 4 ∧ M1 10 6 = M 10 6 ∧ M1 20 5 = M 20 5 ∧ M1 19 2 = M 19 2 ∧ M1 19 4 = M 19 4 ∧ M1 19 6 = M 19 6 ∧ M1 29 0 = M 29 0 ∧ M1 29 1 = M 29 1 ∧ M1 31 1 = M 31 1 ∧ M1 0 11 = M 0 11 ∧ M1 0 12 = M 0 12 ∧ M1 0 13 = M 0 13 ∧ M1 0 10 = M 0 10 ∧ (inI r))) := by
  refine Con.ofG rfl (Nat.le_of_ble_eq_true rfl) ?_
  show G X 12 RX9 cX9_mix 5 (some .int) (Qi (fun r M1 => IC M1 ∧ Fr (fun c => (84 ≤ c ∧ c ≤ 90)) M M1 ∧ M1 2 5 = M 2 5 ∧ M1 1 2 = M 1 2 ∧ M1 1 4 = M 1 4 ∧ M1 1 6 = M 1 6 ∧ M1 11 5 = M 11 5 ∧ M1 10 2 = M 10 2 ∧ M1 10 4 = M 10 4 ∧ M1 10 6 = M 10 6 ∧ M1 20 5 = M 20 5 ∧ M1 19 2 = M 19 2 ∧ M1 19 4 = M 19 4 ∧ M1 19 6 = M 19 6 ∧ M1 29 0 = M 29 0 ∧ M1 29 1 = M 29 1 ∧ M1 31 1 = M 31 1 ∧ M1 0 11 = M 0 11 ∧ M1 0 12 = M 0 12 ∧ M1 0 13 = M 0 13 ∧ M1 0 10 = M 0 10 ∧ (inI r))) 0 [(0, vr X 0), (1, vi a), (2, vi b), (3, vi c)] [] M
  refine g_iload_n (pc' := 1) 1 dX9_mix_0 rfl rfl ?_
  refine g_iconst (pc' := 2) dX9_mix_1 rfl ?_
  refine g_bipush (pc' := 4) (v := 20) dX9_mix_2 rfl (by decide) ?_
  refine g_callSip (pc' := 7) (As := [vi a, vi 1, vi 20]) (S := []) dX9_mix_4 rfl m_X9_191 w_X9_isWithin (c_X9_isWithin X M a ha 1 (by decide) 20 (by decide)) rfl (by decide) (by decide) rfl (Nat.le_of_ble_eq_true rfl) (fun z2 q1 => ?_)
  refine g_if_eq (pc' := 10) (tgt := 20) ⟨by omega, by omega⟩ dX9_mix_7 rfl rfl (fun c3 => ?_) (fun c3 => ?_)
  · replace q1 := q1.resolve_left (fun h => absurd (c3.symm.trans h.1) (by decide))
    refine g_iconst (pc' := 21) dX9_mix_20 rfl ?_
    refine g_ireturn dX9_mix_21 ?_
    exact ⟨hi, Fr.rf, rfl, rfl, rfl, rfl, rfl, rfl, rfl, rfl, rfl, rfl, rfl, rfl, rfl, rfl, rfl, rfl, rfl, rfl, rfl, by omega⟩
  · replace q1 := q1.resolve_right (fun h => c3 h.1)
    refine g_iload_n (pc' := 11) 2 dX9_mix_10 rfl rfl ?_
    refine g_iconst (pc' := 12) dX9_mix_11 rfl ?_
    refine g_bipush (pc' := 14) (v := 100) dX9_mix_12 rfl (by decide) ?_
    refine g_callSip (pc' := 17) (As := [vi b, vi 0, vi 100]) (S := []) dX9_mix_14 rfl m_X9_191 w_X9_isWithin (c_X9_isWithin X M b hb 0 (by decide) 100 (by decide)) rfl (by decide) (by decide) rfl (Nat.le_of_ble_eq_true rfl) (fun z5 q4 => ?_)
    refine g_if_ne (pc' := 20) (tgt := 22) ⟨by omega, by omega⟩ dX9_mix_17 rfl rfl (fun c6 => ?_) (fun c6 => ?_)
    · replace q4 := q4.resolve_right (fun h => c6 h.1)
      refine g_iload_n (pc' := 23) 3 dX9_mix_22 rfl rfl ?_
      refine g_if_lt (pc' := 26) (tgt := 37) hc dX9_mix_23 rfl rfl (fun c7 => ?_) (fun c7 => ?_)
      · refine g_iconst (pc' := 38) dX9_mix_37 rfl ?_
        refine g_ireturn dX9_mix_38 ?_
        exact ⟨hi, Fr.rf, rfl, rfl, rfl, rfl, rfl, rfl, rfl, rfl, rfl, rfl, rfl, rfl, rfl, rfl, rfl, rfl, rfl, rfl, rfl, by omega⟩
      · refine g_iload_n (pc' := 27) 3 dX9_mix_26 rfl rfl ?_
        refine g_aload_n (pc' := 28) 0 dX9_mix_27 rfl rfl ?_
        refine g_getR (pc' := 31) dX9_mix_28 rfl f_X9_12 rfl rfl ?_
        refine g_getI (pc' := 34) dX9_mix_31 rfl f_X9_247 rfl rfl (fun v8 ev8 rv8 => ?_)
        have bv8 : 0 ≤ v8 ∧ v8 ≤ 6 := by rw [ev8]; exact hi.2.1.1.2.2
        have av8 : v8 = M 1 6 := ev8
        refine g_ic_le (pc' := 37) (tgt := 39) hc rv8 dX9_mix_34 rfl rfl (fun c9 => ?_) (fun c9 => ?_)
        · refine g_aload_n (pc' := 40) 0 dX9_mix_39 rfl rfl ?_
          refine g_getR (pc' := 43) dX9_mix_40 rfl f_X9_53 rfl rfl ?_
          refine g_aload_n (pc' := 44) 0 dX9_mix_43 rfl rfl ?_
          refine g_getR (pc' := 47) dX9_mix_44 rfl f_X9_12 rfl rfl ?_
          refine g_iload_n (pc' := 48) 1 dX9_mix_47 rfl rfl ?_
          refine g_iload_n (pc' := 49) 2 dX9_mix_48 rfl rfl ?_
          refine g_callVi (pc' := 52) (As := [vr X 1, vi a, vi b]) (b := 84) (S := []) dX9_mix_49 rfl m_X9_256 w_X1_leastPrice (c_X1_leastPrice X M hi a ha b hb ⟨by omega, by omega⟩) rfl ⟨_, _, _, rfl, rfl, rfl⟩ (by decide) (by decide) rfl (Nat.le_of_ble_eq_true rfl) (fun z11 M12 q10 => ?_)
          obtain ⟨iM12, fM120, pM12⟩ := q10
          have fM12 : Fr (fun c => (84 ≤ c ∧ c ≤ 90)) M M12 := Fr.tr Fr.rf fM120 fi_23
          have q2_5_M12 : id (M12 2 5 = M 2 5) := (congrFun (fM120 2 (by first | decide | omega | (dsimp only; omega))) 5)
          have q1_2_M12 : id (M12 1 2 = M 1 2) := (congrFun (fM120 1 (by first | decide | omega | (dsimp only; omega))) 2)
          have q1_4_M12 : id (M12 1 4 = M 1 4) := (congrFun (fM120 1 (by first | decide | omega | (dsimp only; omega))) 4)
          have q1_6_M12 : id (M12 1 6 = M 1 6) := (congrFun (fM120 1 (by first | decide | omega | (dsimp only; omega))) 6)
          have q11_5_M12 : id (M12 11 5 = M 11 5) := (congrFun (fM120 11 (by first | decide | omega | (dsimp only; omega))) 5)
          have q10_2_M12 : id (M12 10 2 = M 10 2) := (congrFun (fM120 10 (by first | decide | omega | (dsimp only; omega))) 2)
          have q10_4_M12 : id (M12 10 4 = M 10 4) := (congrFun (fM120 10 (by first | decide | omega | (dsimp only; omega))) 4)
          have q10_6_M12 : id (M12 10 6 = M 10 6) := (congrFun (fM120 10 (by first | decide | omega | (dsimp only; omega))) 6)
          have q20_5_M12 : id (M12 20 5 = M 20 5) := (congrFun (fM120 20 (by first | decide | omega | (dsimp only; omega))) 5)
          have q19_2_M12 : id (M12 19 2 = M 19 2) := (congrFun (fM120 19 (by first | decide | omega | (dsimp only; omega))) 2)
          have q19_4_M12 : id (M12 19 4 = M 19 4) := (congrFun (fM120 19 (by first | decide | omega | (dsimp only; omega))) 4)
          have q19_6_M12 : id (M12 19 6 = M 19 6) := (congrFun (fM120 19 (by first | decide | omega | (dsimp only; omega))) 6)
          have q29_0_M12 : id (M12 29 0 = M 29 0) := (congrFun (fM120 29 (by first | decide | omega | (dsimp only; omega))) 0)
          have q29_1_M12 : id (M12 29 1 = M 29 1) := (congrFun (fM120 29 (by first | decide | omega | (dsimp only; omega))) 1)
          have q31_1_M12 : id (M12 31 1 = M 31 1) := (congrFun (fM120 31 (by first | decide | omega | (dsimp only; omega))) 1)
          have q0_11_M12 : id (M12 0 11 = M 0 11) := (congrFun (fM120 0 (by first | decide | omega | (dsimp only; omega))) 11)
          have q0_12_M12 : id (M12 0 12 = M 0 12) := (congrFun (fM120 0 (by first | decide | omega | (dsimp only; omega))) 12)
          have q0_13_M12 : id (M12 0 13 = M 0 13) := (congrFun (fM120 0 (by first | decide | omega | (dsimp only; omega))) 13)
          have q0_10_M12 : id (M12 0 10 = M 0 10) := (congrFun (fM120 0 (by first | decide | omega | (dsimp only; omega))) 10)
          refine g_istore (pc' := 54) (L' := [(4, vi z11), (0, vr X 0), (1, vi a), (2, vi b), (3, vi c)]) dX9_mix_52 rfl (by decide) rfl ?_
          refine g_iload_n (pc' := 55) 4 dX9_mix_54 rfl rfl ?_
          refine g_if_eq (pc' := 58) (tgt := 64) hc dX9_mix_55 rfl rfl (fun c13 => ?_) (fun c13 => ?_)
          · refine g_iload (pc' := 66) 0 dX9_mix_64 rfl rfl ?_
            refine g_goto (tgt := 80) dX9_mix_66 rfl ?_
            refine g_ireturn dX9_mix_80 ?_
            exact ⟨iM12, fM12, q2_5_M12, q1_2_M12, q1_4_M12, q1_6_M12, q11_5_M12, q10_2_M12, q10_4_M12, q10_6_M12, q20_5_M12, q19_2_M12, q19_4_M12, q19_6_M12, q29_0_M12, q29_1_M12, q31_1_M12, q0_11_M12, q0_12_M12, q0_13_M12, q0_10_M12, by omega⟩
          · refine g_iload (pc' := 60) 0 dX9_mix_58 rfl rfl ?_
            refine g_iconst (pc' := 61) dX9_mix_60 rfl ?_
            refine g_ic_ne (pc' := 64) (tgt := 69) ⟨by omega, by omega⟩ (by decide) dX9_mix_61 rfl rfl (fun c14 => ?_) (fun c14 => ?_)
            · refine g_aload_n (pc' := 70) 1 dX9_mix_69 rfl rfl ?_
              refine g_getR (pc' := 73) dX9_mix_70 rfl f_X9_53 rfl rfl ?_
              refine g_getR (pc' := 76) dX9_mix_73 rfl f_X9_260 rfl rfl ?_
              refine g_iload_n (pc' := 77) 4 dX9_mix_76 rfl rfl ?_
              refine g_iconst (pc' := 78) dX9_mix_77 rfl ?_
              refine g_isub (pc' := 79) dX9_mix_78 rfl ?_
              refine g_iald (pc' := 80) dX9_mix_79 rfl rfl (by omega) (by omega) (fun v15 ev15 rv15 => ?_)
              refine g_ireturn dX9_mix_80 ?_
              exact ⟨iM12, fM12, q2_5_M12, q1_2_M12, q1_4_M12, q1_6_M12, q11_5_M12, q10_2_M12, q10_4_M12, q10_6_M12, q20_5_M12, q19_2_M12, q19_4_M12, q19_6_M12, q29_0_M12, q29_1_M12, q31_1_M12, q0_11_M12, q0_12_M12, q0_13_M12, q0_10_M12, by omega⟩
            · refine g_iload (pc' := 66) 0 dX9_mix_64 rfl rfl ?_
              refine g_goto (tgt := 80) dX9_mix_66 rfl ?_
              refine g_ireturn dX9_mix_80 ?_
              exact ⟨iM12, fM12, q2_5_M12, q1_2_M12, q1_4_M12, q1_6_M12, q11_5_M12, q10_2_M12, q10_4_M12, q10_6_M12, q20_5_M12, q19_2_M12, q19_4_M12, q19_6_M12, q29_0_M12, q29_1_M12, q31_1_M12, q0_11_M12, q0_12_M12, q0_13_M12, q0_10_M12, by omega⟩
        · refine g_iconst (pc' := 38) dX9_mix_37 rfl ?_
          refine g_ireturn dX9_mix_38 ?_
          exact ⟨hi, Fr.rf, rfl, rfl, rfl, rfl, rfl, rfl, rfl, rfl, rfl, rfl, rfl, rfl, rfl, rfl, rfl, rfl, rfl, rfl, rfl, by omega⟩
    · replace q4 := q4.resolve_left (fun h => absurd (c6.symm.trans h.1) (by decide))
      refine g_iconst (pc' := 21) dX9_mix_20 rfl ?_
      refine g_ireturn dX9_mix_21 ?_
      exact ⟨hi, Fr.rf, rfl, rfl, rfl, rfl, rfl, rfl, rfl, rfl, rfl, rfl, rfl, rfl, rfl, rfl, rfl, rfl, rfl, rfl, rfl, by omega⟩
