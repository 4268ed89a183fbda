set_option maxHeartbeats 4000000 in
set_option maxRecDepth 100000 in
theorem c_X9_isWithin (X : Cx) (M : Mm) (a : Int) (ha : inI a) (b : Int) (hb : inI b) (c : Int) (hc : inI c) : Con X 0 yX9_isWithin cX9_isWithin 3 (some .boolean) [vi a, vi b, vi c] M (Qi (fun r M1 => M1 = M ∧ ((r = 1 ∧ b ≤ a ∧ a ≤ c) ∨ (r = 0 ∧ (a < b ∨ c < a))))) := by
  refine Con.ofG rfl (Nat.le_of_ble_eq_true rfl) ?_
  show G X 0 RX9 cX9_isWithin 3 (some .boolean) (Qi (fun r M1 => M1 = M ∧ ((r = 1 ∧ b ≤ a ∧ a ≤ c) ∨ (r = 0 ∧ (a < b ∨ c < a))))) 0 [(0, vi a), (1, vi b), (2, vi c)] [] M
  refine g_iload_n (pc' := 1) 0 dX9_isWithin_0 rfl rfl ?_
  refine g_iload_n (pc' := 2) 1 dX9_isWithin_1 rfl rfl ?_
  refine g_ic_lt (pc' := 5) (tgt := 14) ha hb dX9_isWithin_2 rfl rfl (fun c1 => ?_) (fun c1 => ?_)
  · refine g_iconst (pc' := 15) dX9_isWithin_14 rfl ?_
    refine g_zreturn dX9_isWithin_15 (by omega) ?_
    exact ⟨rfl, by omega⟩
  · refine g_iload_n (pc' := 6) 0 dX9_isWithin_5 rfl rfl ?_
    refine g_iload_n (pc' := 7) 2 dX9_isWithin_6 rfl rfl ?_
    refine g_ic_gt (pc' := 10) (tgt := 14) ha hc dX9_isWithin_7 rfl rfl (fun c2 => ?_) (fun c2 => ?_)
    · refine g_iconst (pc' := 15) dX9_isWithin_14 rfl ?_
      refine g_zreturn dX9_isWithin_15 (by omega) ?_
      exact ⟨rfl, by omega⟩
    · refine g_iconst (pc' := 11) dX9_isWithin_10 rfl ?_
      refine g_goto (tgt := 15) dX9_isWithin_11 rfl ?_
      refine g_zreturn dX9_isWithin_15 (by omega) ?_
      exact ⟨rfl, by omega⟩
set_option maxHeartbeats 4000000 in
set_option maxRecDepth 100000 in
theorem c_X9_isAmount (X : Cx) (M : Mm) (a : Int) (ha : inI a) : Con X 1 yX9_isAmount cX9_isAmount 1 (some .boolean) [vi a] M (Qi (fun r M1 => M1 = M ∧ ((r = 1 ∧ 1 ≤ a ∧ a ≤ 60) ∨ (r = 0 ∧ (a < 1 ∨ 60 < a))))) := by
  refine Con.ofG rfl (Nat.le_of_ble_eq_true rfl) ?_
  show G X 1 RX9 cX9_isAmount 1 (some .boolean) (Qi (fun r M1 => M1 = M ∧ ((r = 1 ∧ 1 ≤ a ∧ a ≤ 60) ∨ (r = 0 ∧ (a < 1 ∨ 60 < a))))) 0 [(0, vi a)] [] M
  refine g_iload_n (pc' := 1) 0 dX9_isAmount_0 rfl rfl ?_
  refine g_iconst (pc' := 2) dX9_isAmount_1 rfl ?_
  refine g_bipush (pc' := 4) (v := 60) dX9_isAmount_2 rfl (by decide) ?_
  refine g_callSip (pc' := 7) (As := [vi a, vi 1, vi 60]) (S := []) dX9_isAmount_4 rfl m_X9_191 w_X9_isWithin (c_X9_isWithin X M a ha 1 (by decide) 60 (by decide)) rfl (by decide) (by decide) rfl (Nat.le_of_ble_eq_true rfl) (fun z2 q1 => ?_)
  refine g_zreturn dX9_isAmount_7 (by omega) ?_
  exact ⟨rfl, by omega⟩
set_option maxHeartbeats 4000000 in
set_option maxRecDepth 100000 in
theorem c_X9_isStuff (X : Cx) (M : Mm) (a : Int) (ha : inI a) : Con X 1 yX9_isStuff cX9_isStuff 1 (some .boolean) [vi a] M (Qi (fun r M1 => M1 = M ∧ ((r = 1 ∧ 0 ≤ a ∧ a ≤ 3) ∨ (r = 0 ∧ (a < 0 ∨ 3 < a))))) := by
  refine Con.ofG rfl (Nat.le_of_ble_eq_true rfl) ?_
  show G X 1 RX9 cX9_isStuff 1 (some .boolean) (Qi (fun r M1 => M1 = M ∧ ((r = 1 ∧ 0 ≤ a ∧ a ≤ 3) ∨ (r = 0 ∧ (a < 0 ∨ 3 < a))))) 0 [(0, vi a)] [] M
  refine g_iload_n (pc' := 1) 0 dX9_isStuff_0 rfl rfl ?_
  refine g_iconst (pc' := 2) dX9_isStuff_1 rfl ?_
  refine g_iconst (pc' := 3) dX9_isStuff_2 rfl ?_
  refine g_callSip (pc' := 6) (As := [vi a, vi 0, vi 3]) (S := []) dX9_isStuff_3 rfl m_X9_191 w_X9_isWithin (c_X9_isWithin X M a ha 0 (by decide) 3 (by decide)) rfl (by decide) (by decide) rfl (Nat.le_of_ble_eq_true rfl) (fun z2 q1 => ?_)
  refine g_zreturn dX9_isStuff_6 (by omega) ?_
  exact ⟨rfl, by omega⟩
set_option maxHeartbeats 4000000 in
set_option maxRecDepth 100000 in
theorem c_X9_isBoth (X : Cx) (M : Mm) (a : Int) (ha : inI a) (b : Int) (hb : inI b) : Con X 2 yX9_isBoth cX9_isBoth 2 (some .boolean) [vi a, vi b] M (Qi (fun r M1 => M1 = M ∧ ((r = 1 ∧ 1 ≤ a ∧ a ≤ 60 ∧ 1 ≤ b ∧ b ≤ a - 1) ∨ (r = 0 ∧ (a < 1 ∨ 60 < a ∨ b < 1 ∨ a - 1 < b))))) := by
  refine Con.ofG rfl (Nat.le_of_ble_eq_true rfl) ?_
  show G X 2 RX9 cX9_isBoth 2 (some .boolean) (Qi (fun r M1 => M1 = M ∧ ((r = 1 ∧ 1 ≤ a ∧ a ≤ 60 ∧ 1 ≤ b ∧ b ≤ a - 1) ∨ (r = 0 ∧ (a < 1 ∨ 60 < a ∨ b < 1 ∨ a - 1 < b))))) 0 [(0, vi a), (1, vi b)] [] M
  refine g_iload_n (pc' := 1) 0 dX9_isBoth_0 rfl rfl ?_
  refine g_callSip (pc' := 4) (As := [vi a]) (S := []) dX9_isBoth_1 rfl m_X9_82 w_X9_isAmount (c_X9_isAmount X M a ha) rfl (by decide) (by decide) rfl (Nat.le_of_ble_eq_true rfl) (fun z2 q1 => ?_)
  refine g_if_eq (pc' := 7) (tgt := 22) ⟨by omega, by omega⟩ dX9_isBoth_4 rfl rfl (fun c3 => ?_) (fun c3 => ?_)
  · refine g_iconst (pc' := 23) dX9_isBoth_22 rfl ?_
    refine g_zreturn dX9_isBoth_23 (by omega) ?_
    exact ⟨rfl, by omega⟩
  · refine g_iload_n (pc' := 8) 1 dX9_isBoth_7 rfl rfl ?_
    refine g_iconst (pc' := 9) dX9_isBoth_8 rfl ?_
    refine g_iload_n (pc' := 10) 0 dX9_isBoth_9 rfl rfl ?_
    refine g_iconst (pc' := 11) dX9_isBoth_10 rfl ?_
    refine g_isub (pc' := 12) dX9_isBoth_11 rfl ?_
    refine g_callSip (pc' := 15) (As := [vi b, vi 1, vi (a - 1)]) (S := []) dX9_isBoth_12 rfl m_X9_191 w_X9_isWithin (c_X9_isWithin X M b hb 1 (by decide) (a - 1) ⟨by omega, by omega⟩) rfl (by decide) (by decide) rfl (Nat.le_of_ble_eq_true rfl) (fun z5 q4 => ?_)
    refine g_if_eq (pc' := 18) (tgt := 22) ⟨by omega, by omega⟩ dX9_isBoth_15 rfl rfl (fun c6 => ?_) (fun c6 => ?_)
    · refine g_iconst (pc' := 23) dX9_isBoth_22 rfl ?_
      refine g_zreturn dX9_isBoth_23 (by omega) ?_
      exact ⟨rfl, by omega⟩
    · refine g_iconst (pc' := 19) dX9_isBoth_18 rfl ?_
      refine g_goto (tgt := 23) dX9_isBoth_19 rfl ?_
      refine g_zreturn dX9_isBoth_23 (by omega) ?_
      exact ⟨rfl, by omega⟩
set_option maxHeartbeats 4000000 in
set_option maxRecDepth 100000 in
theorem c_X9_isCask (X : Cx) (M : Mm) (a : Int) (ha : inI a) (b : Int) (hb : inI b) : Con X 2 yX9_isCask cX9_isCask 2 (some .boolean) [vi a, vi b] M (Qi (fun r M1 => M1 = M ∧ ((r = 1 ∧ 1 ≤ a ∧ a ≤ 60 ∧ 0 ≤ b ∧ b ≤ a) ∨ (r = 0 ∧ (a < 1 ∨ 60 < a ∨ b < 0 ∨ a < b))))) := by
  refine Con.ofG rfl (Nat.le_of_ble_eq_true rfl) ?_
  show G X 2 RX9 cX9_isCask 2 (some .boolean) (Qi (fun r M1 => M1 = M ∧ ((r = 1 ∧ 1 ≤ a ∧ a ≤ 60 ∧ 0 ≤ b ∧ b ≤ a) ∨ (r = 0 ∧ (a < 1 ∨ 60 < a ∨ b < 0 ∨ a < b))))) 0 [(0, vi a), (1, vi b)] [] M
  refine g_iload_n (pc' := 1) 0 dX9_isCask_0 rfl rfl ?_
  refine g_callSip (pc' := 4) (As := [vi a]) (S := []) dX9_isCask_1 rfl m_X9_82 w_X9_isAmount (c_X9_isAmount X M a ha) rfl (by decide) (by decide) rfl (Nat.le_of_ble_eq_true rfl) (fun z2 q1 => ?_)
  refine g_if_eq (pc' := 7) (tgt := 20) ⟨by omega, by omega⟩ dX9_isCask_4 rfl rfl (fun c3 => ?_) (fun c3 => ?_)
  · refine g_iconst (pc' := 21) dX9_isCask_20 rfl ?_
    refine g_zreturn dX9_isCask_21 (by omega) ?_
    exact ⟨rfl, by omega⟩
  · refine g_iload_n (pc' := 8) 1 dX9_isCask_7 rfl rfl ?_
    refine g_iconst (pc' := 9) dX9_isCask_8 rfl ?_
    refine g_iload_n (pc' := 10) 0 dX9_isCask_9 rfl rfl ?_
    refine g_callSip (pc' := 13) (As := [vi b, vi 0, vi a]) (S := []) dX9_isCask_10 rfl m_X9_191 w_X9_isWithin (c_X9_isWithin X M b hb 0 (by decide) a ha) rfl (by decide) (by decide) rfl (Nat.le_of_ble_eq_true rfl) (fun z5 q4 => ?_)
    refine g_if_eq (pc' := 16) (tgt := 20) ⟨by omega, by omega⟩ dX9_isCask_13 rfl rfl (fun c6 => ?_) (fun c6 => ?_)
    · refine g_iconst (pc' := 21) dX9_isCask_20 rfl ?_
      refine g_zreturn dX9_isCask_21 (by omega) ?_
      exact ⟨rfl, by omega⟩
    · refine g_iconst (pc' := 17) dX9_isCask_16 rfl ?_
      refine g_goto (tgt := 21) dX9_isCask_17 rfl ?_
      refine g_zreturn dX9_isCask_21 (by omega) ?_
      exact ⟨rfl, by omega⟩
set_option maxHeartbeats 4000000 in
set_option maxRecDepth 100000 in
theorem c_X9_refusalPlace (X : Cx) (M : Mm) (a : Int) (ha : inI a) : Con X 0 yX9_refusalPlace cX9_refusalPlace 1 (some .int) [vi a] M (Qi (fun r M1 => M1 = M ∧ ((-1 ≤ r ∧ r ≤ 4)))) := by
  refine Con.ofG rfl (Nat.le_of_ble_eq_true rfl) ?_
  show G X 0 RX9 cX9_refusalPlace 1 (some .int) (Qi (fun r M1 => M1 = M ∧ ((-1 ≤ r ∧ r ≤ 4)))) 0 [(0, vi a)] [] M
  refine g_iload_n (pc' := 1) 0 dX9_refusalPlace_0 rfl rfl ?_
  by_cases c1 : a = (-6)
  · refine g_tabIn (tgt := 48) (off := 47) ha dX9_refusalPlace_1 (by omega) (by omega) (by rw [c1]; rfl) rfl ?_
    refine g_iconst (pc' := 49) dX9_refusalPlace_48 rfl ?_
    refine g_ireturn dX9_refusalPlace_49 ?_
    exact ⟨rfl, by omega⟩
  by_cases c2 : a = (-5)
  · refine g_tabIn (tgt := 46) (off := 45) ha dX9_refusalPlace_1 (by omega) (by omega) (by rw [c2]; rfl) rfl ?_
    refine g_iconst (pc' := 47) dX9_refusalPlace_46 rfl ?_
    refine g_ireturn dX9_refusalPlace_47 ?_
    exact ⟨rfl, by omega⟩
  by_cases c3 : a = (-4)
  · refine g_tabIn (tgt := 50) (off := 49) ha dX9_refusalPlace_1 (by omega) (by omega) (by rw [c3]; rfl) rfl ?_
    refine g_iconst (pc' := 51) dX9_refusalPlace_50 rfl ?_
    refine g_ireturn dX9_refusalPlace_51 ?_
    exact ⟨rfl, by omega⟩
  by_cases c4 : a = (-3)
  · refine g_tabIn (tgt := 44) (off := 43) ha dX9_refusalPlace_1 (by omega) (by omega) (by rw [c4]; rfl) rfl ?_
    refine g_iconst (pc' := 45) dX9_refusalPlace_44 rfl ?_
    refine g_ireturn dX9_refusalPlace_45 ?_
    exact ⟨rfl, by omega⟩
  by_cases c5 : a = (-2)
  · refine g_tabIn (tgt := 42) (off := 41) ha dX9_refusalPlace_1 (by omega) (by omega) (by rw [c5]; rfl) rfl ?_
    refine g_iconst (pc' := 43) dX9_refusalPlace_42 rfl ?_
    refine g_ireturn dX9_refusalPlace_43 ?_
    exact ⟨rfl, by omega⟩
  by_cases c6 : a = (-1)
  · refine g_tabIn (tgt := 40) (off := 39) ha dX9_refusalPlace_1 (by omega) (by omega) (by rw [c6]; rfl) rfl ?_
    refine g_iconst (pc' := 41) dX9_refusalPlace_40 rfl ?_
    refine g_ireturn dX9_refusalPlace_41 ?_
    exact ⟨rfl, by omega⟩
  refine g_tabOut (tgt := 50) ha dX9_refusalPlace_1 (by omega) rfl ?_
  refine g_iconst (pc' := 51) dX9_refusalPlace_50 rfl ?_
  refine g_ireturn dX9_refusalPlace_51 ?_
  exact ⟨rfl, by omega⟩
set_option maxHeartbeats 4000000 in
set_option maxRecDepth 100000 in
theorem c_X8_kindOf (X : Cx) (M : Mm) (a : Int) (ha : inI a) : Con X 0 yX8_kindOf cX8_kindOf 1 (some .int) [vi a] M (Qi (fun r M1 => M1 = M ∧ ((1 ≤ r ∧ r ≤ 3)))) := by
  refine Con.ofG rfl (Nat.le_of_ble_eq_true rfl) ?_
  show G X 0 RX8 cX8_kindOf 1 (some .int) (Qi (fun r M1 => M1 = M ∧ ((1 ≤ r ∧ r ≤ 3)))) 0 [(0, vi a)] [] M
  refine g_iload_n (pc' := 1) 0 dX8_kindOf_0 rfl rfl ?_
  refine g_bipush (pc' := 3) (v := 97) dX8_kindOf_1 rfl (by decide) ?_
  refine g_ic_lt (pc' := 6) (tgt := 14) ha (by decide) dX8_kindOf_3 rfl rfl (fun c1 => ?_) (fun c1 => ?_)
  · refine g_iload_n (pc' := 15) 0 dX8_kindOf_14 rfl rfl ?_
    refine g_bipush (pc' := 17) (v := 48) dX8_kindOf_15 rfl (by decide) ?_
    refine g_ic_lt (pc' := 20) (tgt := 30) ha (by decide) dX8_kindOf_17 rfl rfl (fun c2 => ?_) (fun c2 => ?_)
    · refine g_iconst (pc' := 31) dX8_kindOf_30 rfl ?_
      refine g_ireturn dX8_kindOf_31 ?_
      exact ⟨rfl, by omega⟩
    · refine g_iload_n (pc' := 21) 0 dX8_kindOf_20 rfl rfl ?_
      refine g_bipush (pc' := 23) (v := 57) dX8_kindOf_21 rfl (by decide) ?_
      refine g_ic_gt (pc' := 26) (tgt := 30) ha (by decide) dX8_kindOf_23 rfl rfl (fun c3 => ?_) (fun c3 => ?_)
      · refine g_iconst (pc' := 31) dX8_kindOf_30 rfl ?_
        refine g_ireturn dX8_kindOf_31 ?_
        exact ⟨rfl, by omega⟩
      · refine g_iconst (pc' := 27) dX8_kindOf_26 rfl ?_
        refine g_goto (tgt := 31) dX8_kindOf_27 rfl ?_
        refine g_ireturn dX8_kindOf_31 ?_
        exact ⟨rfl, by omega⟩
  · refine g_iload_n (pc' := 7) 0 dX8_kindOf_6 rfl rfl ?_
    refine g_bipush (pc' := 9) (v := 122) dX8_kindOf_7 rfl (by decide) ?_
    refine g_ic_gt (pc' := 12) (tgt := 14) ha (by decide) dX8_kindOf_9 rfl rfl (fun c4 => ?_) (fun c4 => ?_)
    · refine g_iload_n (pc' := 15) 0 dX8_kindOf_14 rfl rfl ?_
      refine g_bipush (pc' := 17) (v := 48) dX8_kindOf_15 rfl (by decide) ?_
      refine g_ic_lt (pc' := 20) (tgt := 30) ha (by decide) dX8_kindOf_17 rfl rfl (fun c5 => ?_) (fun c5 => ?_)
      · refine g_iconst (pc' := 31) dX8_kindOf_30 rfl ?_
        refine g_ireturn dX8_kindOf_31 ?_
        exact ⟨rfl, by omega⟩
      · refine g_iload_n (pc' := 21) 0 dX8_kindOf_20 rfl rfl ?_
        refine g_bipush (pc' := 23) (v := 57) dX8_kindOf_21 rfl (by decide) ?_
        refine g_ic_gt (pc' := 26) (tgt := 30) ha (by decide) dX8_kindOf_23 rfl rfl (fun c6 => ?_) (fun c6 => ?_)
        · refine g_iconst (pc' := 31) dX8_kindOf_30 rfl ?_
          refine g_ireturn dX8_kindOf_31 ?_
          exact ⟨rfl, by omega⟩
        · refine g_iconst (pc' := 27) dX8_kindOf_26 rfl ?_
          refine g_goto (tgt := 31) dX8_kindOf_27 rfl ?_
          refine g_ireturn dX8_kindOf_31 ?_
          exact ⟨rfl, by omega⟩
    · refine g_iconst (pc' := 13) dX8_kindOf_12 rfl ?_
      refine g_ireturn dX8_kindOf_13 ?_
      exact ⟨rfl, by omega⟩
set_option maxHeartbeats 4000000 in
set_option maxRecDepth 100000 in
theorem c_X7_has (X : Cx) (M : Mm) (t : Nat) (ht : isT t) (ho : okT M t) (g : Int) (hg : inI g) : Con X 0 yX7_has cX7_has 2 (some .boolean) [vr X t, vi g] M (Qi (fun r M1 => M1 = M ∧ (((r = 1 ∧ 0 ≤ g ∧ g < M t 5) ∨ (r = 0 ∧ (g < 0 ∨ M t 5 ≤ g)))))) := by
  refine Con.ofG rfl (Nat.le_of_ble_eq_true rfl) ?_
  show G X 0 RX7 cX7_has 2 (some .boolean) (Qi (fun r M1 => M1 = M ∧ (((r = 1 ∧ 0 ≤ g ∧ g < M t 5) ∨ (r = 0 ∧ (g < 0 ∨ M t 5 ≤ g)))))) 0 [(0, vr X t), (1, vi g)] [] M
  refine g_iload_n (pc' := 1) 1 dX7_has_0 rfl rfl ?_
  refine g_if_lt (pc' := 4) (tgt := 16) hg dX7_has_1 rfl rfl (fun c1 => ?_) (fun c1 => ?_)
  · refine g_iconst (pc' := 17) dX7_has_16 rfl ?_
    refine g_zreturn dX7_has_17 (by omega) ?_
    exact ⟨rfl, by omega⟩
  · refine g_iload_n (pc' := 5) 1 dX7_has_4 rfl rfl ?_
    refine g_aload_n (pc' := 6) 0 dX7_has_5 rfl rfl ?_
    refine g_getI (pc' := 9) dX7_has_6 rfl f_X7_29 ht.o rfl (fun v2 ev2 rv2 => ?_)
    refine g_ic_ge (pc' := 12) (tgt := 16) hg rv2 dX7_has_9 rfl rfl (fun c3 => ?_) (fun c3 => ?_)
    · refine g_iconst (pc' := 17) dX7_has_16 rfl ?_
      refine g_zreturn dX7_has_17 (by omega) ?_
      exact ⟨rfl, by omega⟩
    · refine g_iconst (pc' := 13) dX7_has_12 rfl ?_
      refine g_goto (tgt := 17) dX7_has_13 rfl ?_
      refine g_zreturn dX7_has_17 (by omega) ?_
      exact ⟨rfl, by omega⟩
set_option maxHeartbeats 4000000 in
set_option maxRecDepth 100000 in
theorem c_X7_sizeOf (X : Cx) (M : Mm) (t : Nat) (ht : isT t) (ho : okT M t) (g : Int) (hg : inI g) : Con X 1 yX7_sizeOf cX7_sizeOf 2 (some .int) [vr X t, vi g] M (Qi (fun r M1 => M1 = M ∧ (inI r ∧ ((0 ≤ g ∧ g < M t 5) ∨ r = 0)))) := by
  refine Con.ofG rfl (Nat.le_of_ble_eq_true rfl) ?_
  show G X 1 RX7 cX7_sizeOf 2 (some .int) (Qi (fun r M1 => M1 = M ∧ (inI r ∧ ((0 ≤ g ∧ g < M t 5) ∨ r = 0)))) 0 [(0, vr X t), (1, vi g)] [] M
  have ho5 := ho.2.1
  have ho4 := ho.1
  refine g_aload_n (pc' := 1) 0 dX7_sizeOf_0 rfl rfl ?_
  refine g_iload_n (pc' := 2) 1 dX7_sizeOf_1 rfl rfl ?_
  refine g_callVip (pc' := 5) (As := [vi g]) (b := t) (S := []) dX7_sizeOf_2 rfl m_X7_33 w_X7_has (c_X7_has X M t ht ho g hg) rfl ⟨_, _, _, ht.o, rfl, rfl⟩ (by decide) (by decide) rfl (Nat.le_of_ble_eq_true rfl) (fun z2 q1 => ?_)
  refine g_if_eq (pc' := 8) (tgt := 17) ⟨by omega, by omega⟩ dX7_sizeOf_5 rfl rfl (fun c3 => ?_) (fun c3 => ?_)
  · refine g_iconst (pc' := 18) dX7_sizeOf_17 rfl ?_
    refine g_ireturn dX7_sizeOf_18 ?_
    exact ⟨rfl, by omega⟩
  · refine g_aload_n (pc' := 9) 0 dX7_sizeOf_8 rfl rfl ?_
    refine g_getR (pc' := 12) dX7_sizeOf_9 rfl f_X7_9 ht.o rfl ?_
    refine g_iload_n (pc' := 13) 1 dX7_sizeOf_12 rfl rfl ?_
    refine g_iald (pc' := 14) dX7_sizeOf_13 rfl ht.s (by omega) (by omega) (fun v4 ev4 rv4 => ?_)
    refine g_goto (tgt := 18) dX7_sizeOf_14 rfl ?_
    refine g_ireturn dX7_sizeOf_18 ?_
    exact ⟨rfl, by omega⟩
set_option maxHeartbeats 4000000 in
set_option maxRecDepth 100000 in
theorem c_X7_fullOf (X : Cx) (M : Mm) (t : Nat) (ht : isT t) (ho : okT M t) (g : Int) (hg : inI g) : Con X 1 yX7_fullOf cX7_fullOf 2 (some .int) [vr X t, vi g] M (Qi (fun r M1 => M1 = M ∧ (inI r ∧ ((0 ≤ g ∧ g < M t 5) ∨ r = 0)))) := by
  refine Con.ofG rfl (Nat.le_of_ble_eq_true rfl) ?_
  show G X 1 RX7 cX7_fullOf 2 (some .int) (Qi (fun r M1 => M1 = M ∧ (inI r ∧ ((0 ≤ g ∧ g < M t 5) ∨ r = 0)))) 0 [(0, vr X t), (1, vi g)] [] M
  have ho5 := ho.2.1
  have ho4 := ho.1
  refine g_aload_n (pc' := 1) 0 dX7_fullOf_0 rfl rfl ?_
  refine g_iload_n (pc' := 2) 1 dX7_fullOf_1 rfl rfl ?_
  refine g_callVip (pc' := 5) (As := [vi g]) (b := t) (S := []) dX7_fullOf_2 rfl m_X7_33 w_X7_has (c_X7_has X M t ht ho g hg) rfl ⟨_, _, _, ht.o, rfl, rfl⟩ (by decide) (by decide) rfl (Nat.le_of_ble_eq_true rfl) (fun z2 q1 => ?_)
  refine g_if_eq (pc' := 8) (tgt := 17) ⟨by omega, by omega⟩ dX7_fullOf_5 rfl rfl (fun c3 => ?_) (fun c3 => ?_)
  · refine g_iconst (pc' := 18) dX7_fullOf_17 rfl ?_
    refine g_ireturn dX7_fullOf_18 ?_
    exact ⟨rfl, by omega⟩
  · refine g_aload_n (pc' := 9) 0 dX7_fullOf_8 rfl rfl ?_
    refine g_getR (pc' := 12) dX7_fullOf_9 rfl f_X7_15 ht.o rfl ?_
    refine g_iload_n (pc' := 13) 1 dX7_fullOf_12 rfl rfl ?_
    refine g_iald (pc' := 14) dX7_fullOf_13 rfl ht.f (by omega) (by omega) (fun v4 ev4 rv4 => ?_)
    refine g_goto (tgt := 18) dX7_fullOf_14 rfl ?_
    refine g_ireturn dX7_fullOf_18 ?_
    exact ⟨rfl, by omega⟩
