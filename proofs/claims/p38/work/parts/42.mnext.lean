set_option maxHeartbeats 4000000 in
set_option maxRecDepth 100000 in
theorem c_X10_isSmall (X : Cx) (M : Mm) (a : Int) (ha : inI a) : Con X 0 yX10_isSmall cX10_isSmall 1 (some .boolean) [vi a] M (Qi (fun r M1 => M1 = M ∧ ((r = 1 ∧ 97 ≤ a ∧ a ≤ 122) ∨ (r = 0 ∧ (a < 97 ∨ 122 < a))))) := by
  refine Con.ofG rfl (Nat.le_of_ble_eq_true rfl) ?_
  show G X 0 RX10 cX10_isSmall 1 (some .boolean) (Qi (fun r M1 => M1 = M ∧ ((r = 1 ∧ 97 ≤ a ∧ a ≤ 122) ∨ (r = 0 ∧ (a < 97 ∨ 122 < a))))) 0 [(0, vi a)] [] M
  refine g_iload_n (pc' := 1) 0 dX10_isSmall_0 rfl rfl ?_
  refine g_bipush (pc' := 3) (v := 97) dX10_isSmall_1 rfl (by decide) ?_
  refine g_ic_lt (pc' := 6) (tgt := 16) ha (by decide) dX10_isSmall_3 rfl rfl (fun c1 => ?_) (fun c1 => ?_)
  · refine g_iconst (pc' := 17) dX10_isSmall_16 rfl ?_
    refine g_zreturn dX10_isSmall_17 (by omega) ?_
    exact ⟨rfl, by omega⟩
  · refine g_iload_n (pc' := 7) 0 dX10_isSmall_6 rfl rfl ?_
    refine g_bipush (pc' := 9) (v := 122) dX10_isSmall_7 rfl (by decide) ?_
    refine g_ic_gt (pc' := 12) (tgt := 16) ha (by decide) dX10_isSmall_9 rfl rfl (fun c2 => ?_) (fun c2 => ?_)
    · refine g_iconst (pc' := 17) dX10_isSmall_16 rfl ?_
      refine g_zreturn dX10_isSmall_17 (by omega) ?_
      exact ⟨rfl, by omega⟩
    · refine g_iconst (pc' := 13) dX10_isSmall_12 rfl ?_
      refine g_goto (tgt := 17) dX10_isSmall_13 rfl ?_
      refine g_zreturn dX10_isSmall_17 (by omega) ?_
      exact ⟨rfl, by omega⟩
set_option maxHeartbeats 4000000 in
set_option maxRecDepth 100000 in
theorem c_X10_isDigit (X : Cx) (M : Mm) (a : Int) (ha : inI a) : Con X 0 yX10_isDigit cX10_isDigit 1 (some .boolean) [vi a] M (Qi (fun r M1 => M1 = M ∧ ((r = 1 ∧ 48 ≤ a ∧ a ≤ 57) ∨ (r = 0 ∧ (a < 48 ∨ 57 < a))))) := by
  refine Con.ofG rfl (Nat.le_of_ble_eq_true rfl) ?_
  show G X 0 RX10 cX10_isDigit 1 (some .boolean) (Qi (fun r M1 => M1 = M ∧ ((r = 1 ∧ 48 ≤ a ∧ a ≤ 57) ∨ (r = 0 ∧ (a < 48 ∨ 57 < a))))) 0 [(0, vi a)] [] M
  refine g_iload_n (pc' := 1) 0 dX10_isDigit_0 rfl rfl ?_
  refine g_bipush (pc' := 3) (v := 48) dX10_isDigit_1 rfl (by decide) ?_
  refine g_ic_lt (pc' := 6) (tgt := 16) ha (by decide) dX10_isDigit_3 rfl rfl (fun c1 => ?_) (fun c1 => ?_)
  · refine g_iconst (pc' := 17) dX10_isDigit_16 rfl ?_
    refine g_zreturn dX10_isDigit_17 (by omega) ?_
    exact ⟨rfl, by omega⟩
  · refine g_iload_n (pc' := 7) 0 dX10_isDigit_6 rfl rfl ?_
    refine g_bipush (pc' := 9) (v := 57) dX10_isDigit_7 rfl (by decide) ?_
    refine g_ic_gt (pc' := 12) (tgt := 16) ha (by decide) dX10_isDigit_9 rfl rfl (fun c2 => ?_) (fun c2 => ?_)
    · refine g_iconst (pc' := 17) dX10_isDigit_16 rfl ?_
      refine g_zreturn dX10_isDigit_17 (by omega) ?_
      exact ⟨rfl, by omega⟩
    · refine g_iconst (pc' := 13) dX10_isDigit_12 rfl ?_
      refine g_goto (tgt := 17) dX10_isDigit_13 rfl ?_
      refine g_zreturn dX10_isDigit_17 (by omega) ?_
      exact ⟨rfl, by omega⟩
