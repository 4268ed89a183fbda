set_option maxHeartbeats 4000000 in
set_option maxRecDepth 100000 in
theorem c_X9_isWithin (X : Cx) (M : Mm) (a : Int) (ha : inI a) (b : Int) (hb : inI b) (c : Int) (hc : inI c) : Con X 0 yX9_isWithin cX9_isWithin 3 (some .boolean) [vi a, vi b, vi c] M (Qi (fun r M1 => M1 = M ∧ ((r = 1 ∧ b ≤ a ∧ a ≤ c) ∨ (r = 0 ∧ (a < b ∨ c < a))))) := by
  refine Con.ofG rfl (Nat.le_of_ble_eq_true rfl) ?_
  show G X 0 RX9 cX9_isWithin 3 (some .boolean) (Qi (fun r M1 => M1 = M ∧ ((r = 1 ∧ b ≤ a ∧ a ≤ c) ∨ (r = 0 ∧ (a < b ∨ c < a))))) 0 [(0, vi a), (1, vi b), (2, vi c)] [] M
  refine g_iload_n (pc' := 1) 0 dX9_isWithin_0 rfl rfl ?_
  refine g_iload_n (pc' := 2) 1 dX9_isWithin_1 rfl rfl ?_
  refine g_ic_lt (pc' := 5) (tgt := 14) ha hb dX9_isWithin_2 rfl rfl (fun c1 => ?_) (fun c1 => ?_)
  · refine g_iconst (pc' := 15) dX9_isWithin_14 rfl ?_
    refine g_zreturn dX9_isWithin_15 (by omega) ?_
    exact ⟨rfl, by omega⟩
  · refine g_iload_n (pc' := 6) 0 dX9_isWithin_5 rfl rfl ?_
    refine g_iload_n (pc' := 7) 2 dX9_isWithin_6 rfl rfl ?_
    refine g_ic_gt (pc' := 10) (tgt := 14) ha hc dX9_isWithin_7 rfl rfl (fun c2 => ?_) (fun c2 => ?_)
    · refine g_iconst (pc' := 15) dX9_isWithin_14 rfl ?_
      refine g_zreturn dX9_isWithin_15 (by omega) ?_
      exact ⟨rfl, by omega⟩
    · refine g_iconst (pc' := 11) dX9_isWithin_10 rfl ?_
      refine g_goto (tgt := 15) dX9_isWithin_11 rfl ?_
      refine g_zreturn dX9_isWithin_15 (by omega) ?_
      exact ⟨rfl, by omega⟩
set_option maxHeartbeats 4000000 in
set_option maxRecDepth 100000 in
theorem c_X9_isAmount (X : Cx) (M : Mm) (a : Int) (ha : inI a) : Con X 1 yX9_isAmount cX9_isAmount 1 (some .boolean) [vi a] M (Qi (fun r M1 => M1 = M ∧ ((r = 1 ∧ 1 ≤ a ∧ a ≤ 60) ∨ (r = 0 ∧ (a < 1 ∨ 60 < a))))) := by
  refine Con.ofG rfl (Nat.le_of_ble_eq_true rfl) ?_
  show G X 1 RX9 cX9_isAmount 1 (some .boolean) (Qi (fun r M1 => M1 = M ∧ ((r = 1 ∧ 1 ≤ a ∧ a ≤ 60) ∨ (r = 0 ∧ (a < 1 ∨ 60 < a))))) 0 [(0, vi a)] [] M
  refine g_iload_n (pc' := 1) 0 dX9_isAmount_0 rfl rfl ?_
  refine g_iconst (pc' := 2) dX9_isAmount_1 rfl ?_
  refine g_bipush (pc' := 4) (v := 60) dX9_isAmount_2 rfl (by decide) ?_
  refine g_callSip (pc' := 7) (As := [vi a, vi 1, vi 60]) (S := []) dX9_isAmount_4 rfl m_X9_191 w_X9_isWithin (c_X9_isWithin X M a ha 1 (by decide) 60 (by decide)) rfl (by decide) (by decide) rfl (Nat.le_of_ble_eq_true rfl) (fun z2 q1 => ?_)
  refine g_zreturn dX9_isAmount_7 (by omega) ?_
  exact ⟨rfl, by omega⟩
set_option maxHeartbeats 4000000 in
set_option maxRecDepth 100000 in
theorem c_X9_isStuff (X : Cx) (M : Mm) (a : Int) (ha : inI a) : Con X 1 yX9_isStuff cX9_isStuff 1 (some .boolean) [vi a] M (Qi (fun r M1 => M1 = M ∧ ((r = 1 ∧ 0 ≤ a ∧ a ≤ 3) ∨ (r = 0 ∧ (a < 0 ∨ 3 < a))))) := by
  refine Con.ofG rfl (Nat.le_of_ble_eq_true rfl) ?_
  show G X 1 RX9 cX9_isStuff 1 (some .boolean) (Qi (fun r M1 => M1 = M ∧ ((r = 1 ∧ 0 ≤ a ∧ a ≤ 3) ∨ (r = 0 ∧ (a < 0 ∨ 3 < a))))) 0 [(0, vi a)] [] M
  refine g_iload_n (pc' := 1) 0 dX9_isStuff_0 rfl rfl ?_
  refine g_iconst (pc' := 2) dX9_isStuff_1 rfl ?_
  refine g_iconst (pc' := 3) dX9_isStuff_2 rfl ?_
  refine g_callSip (pc' := 6) (As := [vi a, vi 0, vi 3]) (S := []) dX9_isStuff_3 rfl m_X9_191 w_X9_isWithin (c_X9_isWithin X M a ha 0 (by decide) 3 (by decide)) rfl (by decide) (by decide) rfl (Nat.le_of_ble_eq_true rfl) (fun z2 q1 => ?_)
  refine g_zreturn dX9_isStuff_6 (by omega) ?_
  exact ⟨rfl, by omega⟩
set_option maxHeartbeats 4000000 in
set_option maxRecDepth 100000 in
theorem c_X9_isBoth (X : Cx) (M : Mm) (a : Int) (ha : inI a) (b : Int) (hb : inI b) : Con X 2 yX9_isBoth cX9_isBoth 2 (some .boolean) [vi a, vi b] M (Qi (fun r M1 => M1 = M ∧ ((r = 1 ∧ 1 ≤ a ∧ a ≤ 60 ∧ 1 ≤ b ∧ b ≤ a - 1) ∨ (r = 0 ∧ (a < 1 ∨ 60 < a ∨ b < 1 ∨ a - 1 < b))))) := by
  refine Con.ofG rfl (Nat.le_of_ble_eq_true rfl) ?_
  show G X 2 RX9 cX9_isBoth 2 (some .boolean) (Qi (fun r M1 => M1 = M ∧ ((r = 1 ∧ 1 ≤ a ∧ a ≤ 60 ∧ 1 ≤ b ∧ b ≤ a - 1) ∨ (r = 0 ∧ (a < 1 ∨ 60 < a ∨ b < 1 ∨ a - 1 < b))))) 0 [(0, vi a), (1, vi b)] [] M
  refine g_iload_n (pc' := 1) 0 dX9_isBoth_0 rfl rfl ?_
  refine g_callSip (pc' := 4) (As := [vi a]) (S := []) dX9_isBoth_1 rfl m_X9_82 w_X9_isAmount (c_X9_isAmount X M a ha) rfl (by decide) (by decide) rfl (Nat.le_of_ble_eq_true rfl) (fun z2 q1 => ?_)
  refine g_if_eq (pc' := 7) (tgt := 22) ⟨by omega, by omega⟩ dX9_isBoth_4 rfl rfl (fun c3 => ?_) (fun c3 => ?_)
  · replace q1 := q1.resolve_left (fun h => absurd (c3.symm.trans h.1) (by decide))
    refine g_iconst (pc' := 23) dX9_isBoth_22 rfl ?_
    refine g_zreturn dX9_isBoth_23 (by omega) ?_
    exact ⟨rfl, by omega⟩
  · replace q1 := q1.resolve_right (fun h => c3 h.1)
    refine g_iload_n (pc' := 8) 1 dX9_isBoth_7 rfl rfl ?_
    refine g_iconst (pc' := 9) dX9_isBoth_8 rfl ?_
    refine g_iload_n (pc' := 10) 0 dX9_isBoth_9 rfl rfl ?_
    refine g_iconst (pc' := 11) dX9_isBoth_10 rfl ?_
    refine g_isub (pc' := 12) dX9_isBoth_11 rfl ?_
    refine g_callSip (pc' := 15) (As := [vi b, vi 1, vi (a - 1)]) (S := []) dX9_isBoth_12 rfl m_X9_191 w_X9_isWithin (c_X9_isWithin X M b hb 1 (by decide) (a - 1) ⟨by omega, by omega⟩) rfl (by decide) (by decide) rfl (Nat.le_of_ble_eq_true rfl) (fun z5 q4 => ?_)
    refine g_if_eq (pc' := 18) (tgt := 22) ⟨by omega, by omega⟩ dX9_isBoth_15 rfl rfl (fun c6 => ?_) (fun c6 => ?_)
    · replace q4 := q4.resolve_left (fun h => absurd (c6.symm.trans h.1) (by decide))
      refine g_iconst (pc' := 23) dX9_isBoth_22 rfl ?_
      refine g_zreturn dX9_isBoth_23 (by omega) ?_
      exact ⟨rfl, by omega⟩
    · replace q4 := q4.resolve_right (fun h => c6 h.1)
      refine g_iconst (pc' := 19) dX9_isBoth_18 rfl ?_
      refine g_goto (tgt := 23) dX9_isBoth_19 rfl ?_
      refine g_zreturn dX9_isBoth_23 (by omega) ?_
      exact ⟨rfl, by omega⟩
set_option maxHeartbeats 4000000 in
set_option maxRecDepth 100000 in
theorem c_X9_isCask (X : Cx) (M : Mm) (a : Int) (ha : inI a) (b : Int) (hb : inI b) : Con X 2 yX9_isCask cX9_isCask 2 (some .boolean) [vi a, vi b] M (Qi (fun r M1 => M1 = M ∧ ((r = 1 ∧ 1 ≤ a ∧ a ≤ 60 ∧ 0 ≤ b ∧ b ≤ a) ∨ (r = 0 ∧ (a < 1 ∨ 60 < a ∨ b < 0 ∨ a < b))))) := by
  refine Con.ofG rfl (Nat.le_of_ble_eq_true rfl) ?_
  show G X 2 RX9 cX9_isCask 2 (some .boolean) (Qi (fun r M1 => M1 = M ∧ ((r = 1 ∧ 1 ≤ a ∧ a ≤ 60 ∧ 0 ≤ b ∧ b ≤ a) ∨ (r = 0 ∧ (a < 1 ∨ 60 < a ∨ b < 0 ∨ a < b))))) 0 [(0, vi a), (1, vi b)] [] M
  refine g_iload_n (pc' := 1) 0 dX9_isCask_0 rfl rfl ?_
  refine g_callSip (pc' := 4) (As := [vi a]) (S := []) dX9_isCask_1 rfl m_X9_82 w_X9_isAmount (c_X9_isAmount X M a ha) rfl (by decide) (by decide) rfl (Nat.le_of_ble_eq_true rfl) (fun z2 q1 => ?_)
  refine g_if_eq (pc' := 7) (tgt := 20) ⟨by omega, by omega⟩ dX9_isCask_4 rfl rfl (fun c3 => ?_) (fun c3 => ?_)
  · replace q1 := q1.resolve_left (fun h => absurd (c3.symm.trans h.1) (by decide))
    refine g_iconst (pc' := 21) dX9_isCask_20 rfl ?_
    refine g_zreturn dX9_isCask_21 (by omega) ?_
    exact ⟨rfl, by omega⟩
  · replace q1 := q1.resolve_right (fun h => c3 h.1)
    refine g_iload_n (pc' := 8) 1 dX9_isCask_7 rfl rfl ?_
    refine g_iconst (pc' := 9) dX9_isCask_8 rfl ?_
    refine g_iload_n (pc' := 10) 0 dX9_isCask_9 rfl rfl ?_
    refine g_callSip (pc' := 13) (As := [vi b, vi 0, vi a]) (S := []) dX9_isCask_10 rfl m_X9_191 w_X9_isWithin (c_X9_isWithin X M b hb 0 (by decide) a ha) rfl (by decide) (by decide) rfl (Nat.le_of_ble_eq_true rfl) (fun z5 q4 => ?_)
    refine g_if_eq (pc' := 16) (tgt := 20) ⟨by omega, by omega⟩ dX9_isCask_13 rfl rfl (fun c6 => ?_) (fun c6 => ?_)
    · replace q4 := q4.resolve_left (fun h => absurd (c6.symm.trans h.1) (by decide))
      refine g_iconst (pc' := 21) dX9_isCask_20 rfl ?_
      refine g_zreturn dX9_isCask_21 (by omega) ?_
      exact ⟨rfl, by omega⟩
    · replace q4 := q4.resolve_right (fun h => c6 h.1)
      refine g_iconst (pc' := 17) dX9_isCask_16 rfl ?_
      refine g_goto (tgt := 21) dX9_isCask_17 rfl ?_
      refine g_zreturn dX9_isCask_21 (by omega) ?_
      exact ⟨rfl, by omega⟩
set_option maxHeartbeats 4000000 in
set_option maxRecDepth 100000 in
theorem c_X7_has (X : Cx) (M : Mm) (t : Nat) (ht : isT t) (ho : okT M t) (g : Int) (hg : inI g) : Con X 0 yX7_has cX7_has 2 (some .boolean) [vr X t, vi g] M (Qi (fun r M1 => M1 = M ∧ (((r = 1 ∧ 0 ≤ g ∧ g < M t 5) ∨ (r = 0 ∧ (g < 0 ∨ M t 5 ≤ g)))))) := by
  refine Con.ofG rfl (Nat.le_of_ble_eq_true rfl) ?_
  show G X 0 RX7 cX7_has 2 (some .boolean) (Qi (fun r M1 => M1 = M ∧ (((r = 1 ∧ 0 ≤ g ∧ g < M t 5) ∨ (r = 0 ∧ (g < 0 ∨ M t 5 ≤ g)))))) 0 [(0, vr X t), (1, vi g)] [] M
  refine g_iload_n (pc' := 1) 1 dX7_has_0 rfl rfl ?_
  refine g_if_lt (pc' := 4) (tgt := 16) hg dX7_has_1 rfl rfl (fun c1 => ?_) (fun c1 => ?_)
  · refine g_iconst (pc' := 17) dX7_has_16 rfl ?_
    refine g_zreturn dX7_has_17 (by omega) ?_
    exact ⟨rfl, by omega⟩
  · refine g_iload_n (pc' := 5) 1 dX7_has_4 rfl rfl ?_
    refine g_aload_n (pc' := 6) 0 dX7_has_5 rfl rfl ?_
    refine g_getI (pc' := 9) dX7_has_6 rfl f_X7_29 ht.o rfl (fun v2 ev2 rv2 => ?_)
    refine g_ic_ge (pc' := 12) (tgt := 16) hg rv2 dX7_has_9 rfl rfl (fun c3 => ?_) (fun c3 => ?_)
    · refine g_iconst (pc' := 17) dX7_has_16 rfl ?_
      refine g_zreturn dX7_has_17 (by omega) ?_
      exact ⟨rfl, by omega⟩
    · refine g_iconst (pc' := 13) dX7_has_12 rfl ?_
      refine g_goto (tgt := 17) dX7_has_13 rfl ?_
      refine g_zreturn dX7_has_17 (by omega) ?_
      exact ⟨rfl, by omega⟩
set_option maxHeartbeats 4000000 in
set_option maxRecDepth 100000 in
theorem c_X7_sizeOf (X : Cx) (M : Mm) (t : Nat) (ht : isT t) (ho : okT M t) (g : Int) (hg : inI g) : Con X 1 yX7_sizeOf cX7_sizeOf 2 (some .int) [vr X t, vi g] M (Qi (fun r M1 => M1 = M ∧ (inI r ∧ ((0 ≤ g ∧ g < M t 5) ∨ r = 0)))) := by
  refine Con.ofG rfl (Nat.le_of_ble_eq_true rfl) ?_
  show G X 1 RX7 cX7_sizeOf 2 (some .int) (Qi (fun r M1 => M1 = M ∧ (inI r ∧ ((0 ≤ g ∧ g < M t 5) ∨ r = 0)))) 0 [(0, vr X t), (1, vi g)] [] M
  have ho5 := ho.2.1
  have ho4 := ho.1
  refine g_aload_n (pc' := 1) 0 dX7_sizeOf_0 rfl rfl ?_
  refine g_iload_n (pc' := 2) 1 dX7_sizeOf_1 rfl rfl ?_
  refine g_callVip (pc' := 5) (As := [vi g]) (b := t) (S := []) dX7_sizeOf_2 rfl m_X7_33 w_X7_has (c_X7_has X M t ht ho g hg) rfl ⟨_, _, _, ht.o, rfl, rfl⟩ (by decide) (by decide) rfl (Nat.le_of_ble_eq_true rfl) (fun z2 q1 => ?_)
  refine g_if_eq (pc' := 8) (tgt := 17) ⟨by omega, by omega⟩ dX7_sizeOf_5 rfl rfl (fun c3 => ?_) (fun c3 => ?_)
  · replace q1 := q1.resolve_left (fun h => absurd (c3.symm.trans h.1) (by decide))
    refine g_iconst (pc' := 18) dX7_sizeOf_17 rfl ?_
    refine g_ireturn dX7_sizeOf_18 ?_
    exact ⟨rfl, by omega⟩
  · replace q1 := q1.resolve_right (fun h => c3 h.1)
    refine g_aload_n (pc' := 9) 0 dX7_sizeOf_8 rfl rfl ?_
    refine g_getR (pc' := 12) dX7_sizeOf_9 rfl f_X7_9 ht.o rfl ?_
    refine g_iload_n (pc' := 13) 1 dX7_sizeOf_12 rfl rfl ?_
    refine g_iald (pc' := 14) dX7_sizeOf_13 rfl ht.s (by omega) (by omega) (fun v4 ev4 rv4 => ?_)
    refine g_goto (tgt := 18) dX7_sizeOf_14 rfl ?_
    refine g_ireturn dX7_sizeOf_18 ?_
    exact ⟨rfl, by omega⟩
set_option maxHeartbeats 4000000 in
set_option maxRecDepth 100000 in
theorem c_X7_fullOf (X : Cx) (M : Mm) (t : Nat) (ht : isT t) (ho : okT M t) (g : Int) (hg : inI g) : Con X 1 yX7_fullOf cX7_fullOf 2 (some .int) [vr X t, vi g] M (Qi (fun r M1 => M1 = M ∧ (inI r ∧ ((0 ≤ g ∧ g < M t 5) ∨ r = 0)))) := by
  refine Con.ofG rfl (Nat.le_of_ble_eq_true rfl) ?_
  show G X 1 RX7 cX7_fullOf 2 (some .int) (Qi (fun r M1 => M1 = M ∧ (inI r ∧ ((0 ≤ g ∧ g < M t 5) ∨ r = 0)))) 0 [(0, vr X t), (1, vi g)] [] M
  have ho5 := ho.2.1
  have ho4 := ho.1
  refine g_aload_n (pc' := 1) 0 dX7_fullOf_0 rfl rfl ?_
  refine g_iload_n (pc' := 2) 1 dX7_fullOf_1 rfl rfl ?_
  refine g_callVip (pc' := 5) (As := [vi g]) (b := t) (S := []) dX7_fullOf_2 rfl m_X7_33 w_X7_has (c_X7_has X M t ht ho g hg) rfl ⟨_, _, _, ht.o, rfl, rfl⟩ (by decide) (by decide) rfl (Nat.le_of_ble_eq_true rfl) (fun z2 q1 => ?_)
  refine g_if_eq (pc' := 8) (tgt := 17) ⟨by omega, by omega⟩ dX7_fullOf_5 rfl rfl (fun c3 => ?_) (fun c3 => ?_)
  · replace q1 := q1.resolve_left (fun h => absurd (c3.symm.trans h.1) (by decide))
    refine g_iconst (pc' := 18) dX7_fullOf_17 rfl ?_
    refine g_ireturn dX7_fullOf_18 ?_
    exact ⟨rfl, by omega⟩
  · replace q1 := q1.resolve_right (fun h => c3 h.1)
    refine g_aload_n (pc' := 9) 0 dX7_fullOf_8 rfl rfl ?_
    refine g_getR (pc' := 12) dX7_fullOf_9 rfl f_X7_15 ht.o rfl ?_
    refine g_iload_n (pc' := 13) 1 dX7_fullOf_12 rfl rfl ?_
    refine g_iald (pc' := 14) dX7_fullOf_13 rfl ht.f (by omega) (by omega) (fun v4 ev4 rv4 => ?_)
    refine g_goto (tgt := 18) dX7_fullOf_14 rfl ?_
    refine g_ireturn dX7_fullOf_18 ?_
    exact ⟨rfl, by omega⟩
set_option maxHeartbeats 4000000 in
set_option maxRecDepth 100000 in
theorem l_X9_power_5 (X : Cx) (M : Mm) (a : Int) (ha : inL a) (n : Int) (hn : inI n) : ∀ (kk : Nat) (res : Int) (i : Int) (hr : inL res) (h0 : 0 ≤ i) (h1 : i ≤ 2147483647), (n - i).toNat = kk → G X 0 RX9 cX9_power 6 (some .long) (Ql (fun r M1 => M1 = M ∧ (inL r))) 5 [(3, vl res), (5, vi i), (0, vl a), (2, vi n)] [] M := by
  intro kk
  induction kk using Nat.strongRecOn with
  | ind kk ih =>
    intro res i hr h0 h1 hmes
    refine g_iload (pc' := 7) 1 dX9_power_5 rfl rfl ?_
    refine g_iload_n (pc' := 8) 3 dX9_power_7 rfl rfl ?_
    refine g_ic_ge (pc' := 11) (tgt := 21) ⟨by omega, by omega⟩ hn dX9_power_8 rfl rfl (fun c1 => ?_) (fun c1 => ?_)
    · refine g_lload_n (pc' := 22) 0 dX9_power_21 rfl rfl ?_
      refine g_lreturn dX9_power_22 ?_
      exact ⟨rfl, by assumption⟩
    · refine g_lload_n (pc' := 12) 0 dX9_power_11 rfl rfl ?_
      refine g_lload_n (pc' := 13) 2 dX9_power_12 rfl rfl ?_
      refine g_lmul (pc' := 14) dX9_power_13 rfl ?_
      refine g_nrmL (fun n2 rn2 en2 => ?_)
      refine g_lstore_n (pc' := 15) (i := 3) (L' := [(3, vl n2), (5, vi i), (0, vl a), (2, vi n)]) dX9_power_14 rfl rfl (by decide) rfl ?_
      refine g_iinc (pc' := 18) (L' := [(5, vi (i + 1)), (3, vl n2), (0, vl a), (2, vi n)]) 1 dX9_power_15 rfl rfl (by decide) rfl ?_
      refine g_goto (tgt := 5) dX9_power_18 rfl ?_
      refine g_sub [1, 0, 2, 3] rfl ?_
      exact ih _ (by omega) n2 (i + 1) (by first | assumption | decide) (by omega) (by omega) rfl
set_option maxHeartbeats 4000000 in
set_option maxRecDepth 100000 in
theorem c_X9_power (X : Cx) (M : Mm) (a : Int) (ha : inL a) (n : Int) (hn : inI n) : Con X 0 yX9_power cX9_power 6 (some .long) [vl a, vi n] M (Ql (fun r M1 => M1 = M ∧ (inL r))) := by
  refine Con.ofG rfl (Nat.le_of_ble_eq_true rfl) ?_
  show G X 0 RX9 cX9_power 6 (some .long) (Ql (fun r M1 => M1 = M ∧ (inL r))) 0 [(0, vl a), (2, vi n)] [] M
  refine g_lconst (pc' := 1) (v := 1) dX9_power_0 rfl (by decide) ?_
  refine g_lstore_n (pc' := 2) (i := 3) (L' := [(3, vl 1), (0, vl a), (2, vi n)]) dX9_power_1 rfl rfl (by decide) rfl ?_
  refine g_iconst (pc' := 3) dX9_power_2 rfl ?_
  refine g_istore (pc' := 5) (L' := [(5, vi 0), (3, vl 1), (0, vl a), (2, vi n)]) dX9_power_3 rfl (by decide) rfl ?_
  refine g_sub [1, 0, 2, 3] rfl ?_
  exact l_X9_power_5 X M a ha n hn _ 1 0 (by first | assumption | decide) (by omega) (by omega) rfl
set_option maxHeartbeats 4000000 in
set_option maxRecDepth 100000 in
theorem l_X9_commonDivisor_9 (X : Cx) (M : Mm) (a : Int) (ha : inL a) (b : Int) (hb : inL b) : ∀ (kk : Nat) (u : Int) (v : Int) (i : Int) (hu : inL u) (hv : inL v) (h0 : 0 ≤ i) (h1 : i ≤ 200), (200 - i).toNat = kk → G X 0 RX9 cX9_commonDivisor 11 (some .long) (Ql (fun r M1 => M1 = M ∧ (inL r))) 9 [(4, vl u), (6, vl v), (8, vi i)] [] M := by
  intro kk
  induction kk using Nat.strongRecOn with
  | ind kk ih =>
    intro u v i hu hv h0 h1 hmes
    refine g_iload (pc' := 11) 2 dX9_commonDivisor_9 rfl rfl ?_
    refine g_sipush (pc' := 14) (v := 200) dX9_commonDivisor_11 rfl (by decide) ?_
    refine g_ic_ge (pc' := 17) (tgt := 45) ⟨by omega, by omega⟩ (by decide) dX9_commonDivisor_14 rfl rfl (fun c1 => ?_) (fun c1 => ?_)
    · refine g_lload (pc' := 47) 0 dX9_commonDivisor_45 rfl rfl ?_
      refine g_lreturn dX9_commonDivisor_47 ?_
      exact ⟨rfl, by assumption⟩
    · refine g_lload (pc' := 19) 1 dX9_commonDivisor_17 rfl rfl ?_
      refine g_lconst (pc' := 20) (v := 0) dX9_commonDivisor_19 rfl (by decide) ?_
      refine g_lc_eq (pc' := 24) (tgt := 45) ⟨by omega, by omega⟩ (by decide) dX9_commonDivisor_20 dX9_commonDivisor_21 rfl rfl (fun c2 => ?_) (fun c2 => ?_)
      · refine g_lload (pc' := 47) 0 dX9_commonDivisor_45 rfl rfl ?_
        refine g_lreturn dX9_commonDivisor_47 ?_
        exact ⟨rfl, by assumption⟩
      · refine g_lload (pc' := 26) 0 dX9_commonDivisor_24 rfl rfl ?_
        refine g_lload (pc' := 28) 1 dX9_commonDivisor_26 rfl rfl ?_
        refine g_lrem (pc' := 29) ⟨by omega, by omega⟩ ⟨by omega, by omega⟩ (by omega) dX9_commonDivisor_28 rfl ?_
        refine g_nrmL (fun n3 rn3 en3 => ?_)
        refine g_lstore (pc' := 31) (L' := [(9, vl n3), (4, vl u), (6, vl v), (8, vi i)]) dX9_commonDivisor_29 rfl (by decide) rfl ?_
        refine g_lload (pc' := 33) 2 dX9_commonDivisor_31 rfl rfl ?_
        refine g_lstore (pc' := 35) (L' := [(4, vl v), (9, vl n3), (6, vl v), (8, vi i)]) dX9_commonDivisor_33 rfl (by decide) rfl ?_
        refine g_lload (pc' := 37) 1 dX9_commonDivisor_35 rfl rfl ?_
        refine g_lstore (pc' := 39) (L' := [(6, vl n3), (4, vl v), (9, vl n3), (8, vi i)]) dX9_commonDivisor_37 rfl (by decide) rfl ?_
        refine g_iinc (pc' := 42) (L' := [(8, vi (i + 1)), (6, vl n3), (4, vl v), (9, vl n3)]) 3 dX9_commonDivisor_39 rfl rfl (by decide) rfl ?_
        refine g_goto (tgt := 9) dX9_commonDivisor_42 rfl ?_
        refine g_sub [2, 1, 0] rfl ?_
        exact ih _ (by omega) v n3 (i + 1) (by assumption) (by assumption) (by omega) (by omega) rfl
set_option maxHeartbeats 4000000 in
set_option maxRecDepth 100000 in
theorem c_X9_commonDivisor (X : Cx) (M : Mm) (a : Int) (ha : inL a) (b : Int) (hb : inL b) : Con X 0 yX9_commonDivisor cX9_commonDivisor 11 (some .long) [vl a, vl b] M (Ql (fun r M1 => M1 = M ∧ (inL r))) := by
  refine Con.ofG rfl (Nat.le_of_ble_eq_true rfl) ?_
  show G X 0 RX9 cX9_commonDivisor 11 (some .long) (Ql (fun r M1 => M1 = M ∧ (inL r))) 0 [(0, vl a), (2, vl b)] [] M
  refine g_lload_n (pc' := 1) 0 dX9_commonDivisor_0 rfl rfl ?_
  refine g_lstore (pc' := 3) (L' := [(4, vl a), (0, vl a), (2, vl b)]) dX9_commonDivisor_1 rfl (by decide) rfl ?_
  refine g_lload_n (pc' := 4) 2 dX9_commonDivisor_3 rfl rfl ?_
  refine g_lstore (pc' := 6) (L' := [(6, vl b), (4, vl a), (0, vl a), (2, vl b)]) dX9_commonDivisor_4 rfl (by decide) rfl ?_
  refine g_iconst (pc' := 7) dX9_commonDivisor_6 rfl ?_
  refine g_istore (pc' := 9) (L' := [(8, vi 0), (6, vl b), (4, vl a), (0, vl a), (2, vl b)]) dX9_commonDivisor_7 rfl (by decide) rfl ?_
  refine g_sub [2, 1, 0] rfl ?_
  exact l_X9_commonDivisor_9 X M a ha b hb _ a b 0 (by assumption) (by assumption) (by omega) (by omega) rfl
set_option maxHeartbeats 4000000 in
set_option maxRecDepth 100000 in
theorem l_X9_choices_12 (X : Cx) (M : Mm) (a : Int) (ha : inI a) (b : Int) (hb : inI b) (pa : 0 ≤ a ∧ a ≤ 40) (pb : 0 ≤ b ∧ b ≤ 40) : ∀ (kk : Nat) (res : Int) (i : Int) (hr : inL res) (h0 : 1 ≤ i) (h1 : i ≤ 41), (41 - i).toNat = kk → G X 0 RX9 cX9_choices 5 (some .long) (Ql (fun r M1 => M1 = M ∧ (inL r))) 12 [(2, vl res), (4, vi i), (0, vi a), (1, vi b)] [] M := by
  intro kk
  induction kk using Nat.strongRecOn with
  | ind kk ih =>
    intro res i hr h0 h1 hmes
    refine g_iload (pc' := 14) 1 dX9_choices_12 rfl rfl ?_
    refine g_iload_n (pc' := 15) 3 dX9_choices_14 rfl rfl ?_
    refine g_ic_gt (pc' := 18) (tgt := 38) ⟨by omega, by omega⟩ hb dX9_choices_15 rfl rfl (fun c1 => ?_) (fun c1 => ?_)
    · refine g_lload_n (pc' := 39) 0 dX9_choices_38 rfl rfl ?_
      refine g_lreturn dX9_choices_39 ?_
      exact ⟨rfl, by first | assumption | decide⟩
    · refine g_lload_n (pc' := 19) 0 dX9_choices_18 rfl rfl ?_
      refine g_iload_n (pc' := 20) 2 dX9_choices_19 rfl rfl ?_
      refine g_iload_n (pc' := 21) 3 dX9_choices_20 rfl rfl ?_
      refine g_isub (pc' := 22) dX9_choices_21 rfl ?_
      refine g_iload (pc' := 24) 1 dX9_choices_22 rfl rfl ?_
      refine g_iadd (pc' := 25) dX9_choices_24 rfl ?_
      refine g_i2l (pc' := 26) ⟨by omega, by omega⟩ dX9_choices_25 rfl ?_
      refine g_lmul (pc' := 27) dX9_choices_26 rfl ?_
      refine g_nrmL (fun n2 rn2 en2 => ?_)
      refine g_iload (pc' := 29) 1 dX9_choices_27 rfl rfl ?_
      refine g_i2l (pc' := 30) ⟨by omega, by omega⟩ dX9_choices_29 rfl ?_
      refine g_ldiv (pc' := 31) rn2 ⟨by omega, by omega⟩ (by omega) dX9_choices_30 rfl ?_
      refine g_nrmL (fun n3 rn3 en3 => ?_)
      refine g_lstore_n (pc' := 32) (i := 2) (L' := [(2, vl n3), (4, vi i), (0, vi a), (1, vi b)]) dX9_choices_31 rfl rfl (by decide) rfl ?_
      refine g_iinc (pc' := 35) (L' := [(4, vi (i + 1)), (2, vl n3), (0, vi a), (1, vi b)]) 1 dX9_choices_32 rfl rfl (by decide) rfl ?_
      refine g_goto (tgt := 12) dX9_choices_35 rfl ?_
      refine g_sub [1, 0, 2, 3] rfl ?_
      exact ih _ (by omega) n3 (i + 1) (by first | assumption | decide) (by omega) (by omega) rfl
set_option maxHeartbeats 4000000 in
set_option maxRecDepth 100000 in
theorem c_X9_choices (X : Cx) (M : Mm) (a : Int) (ha : inI a) (b : Int) (hb : inI b) (pa : 0 ≤ a ∧ a ≤ 40) (pb : 0 ≤ b ∧ b ≤ 40) : Con X 0 yX9_choices cX9_choices 5 (some .long) [vi a, vi b] M (Ql (fun r M1 => M1 = M ∧ (inL r))) := by
  refine Con.ofG rfl (Nat.le_of_ble_eq_true rfl) ?_
  show G X 0 RX9 cX9_choices 5 (some .long) (Ql (fun r M1 => M1 = M ∧ (inL r))) 0 [(0, vi a), (1, vi b)] [] M
  refine g_iload_n (pc' := 1) 1 dX9_choices_0 rfl rfl ?_
  refine g_iload_n (pc' := 2) 0 dX9_choices_1 rfl rfl ?_
  refine g_ic_le (pc' := 5) (tgt := 7) hb ha dX9_choices_2 rfl rfl (fun c1 => ?_) (fun c1 => ?_)
  · refine g_lconst (pc' := 8) (v := 1) dX9_choices_7 rfl (by decide) ?_
    refine g_lstore_n (pc' := 9) (i := 2) (L' := [(2, vl 1), (0, vi a), (1, vi b)]) dX9_choices_8 rfl rfl (by decide) rfl ?_
    refine g_iconst (pc' := 10) dX9_choices_9 rfl ?_
    refine g_istore (pc' := 12) (L' := [(4, vi 1), (2, vl 1), (0, vi a), (1, vi b)]) dX9_choices_10 rfl (by decide) rfl ?_
    refine g_sub [1, 0, 2, 3] rfl ?_
    exact l_X9_choices_12 X M a ha b hb pa pb _ 1 1 (by first | assumption | decide) (by omega) (by omega) rfl
  · refine g_lconst (pc' := 6) (v := 0) dX9_choices_5 rfl (by decide) ?_
    refine g_lreturn dX9_choices_6 ?_
    exact ⟨rfl, by first | assumption | decide⟩
set_option maxHeartbeats 4000000 in
set_option maxRecDepth 100000 in
theorem c_X9_lowestTerm (X : Cx) (M : Mm) (a : Int) (ha : inL a) (b : Int) (hb : inL b) (c : Int) (hc : inI c) : Con X 1 yX9_lowestTerm cX9_lowestTerm 7 (some .long) [vl a, vl b, vi c] M (Ql (fun r M1 => M1 = M ∧ (inL r))) := by
  refine Con.ofG rfl (Nat.le_of_ble_eq_true rfl) ?_
  show G X 1 RX9 cX9_lowestTerm 7 (some .long) (Ql (fun r M1 => M1 = M ∧ (inL r))) 0 [(0, vl a), (2, vl b), (4, vi c)] [] M
  refine g_lload_n (pc' := 1) 0 dX9_lowestTerm_0 rfl rfl ?_
  refine g_lload_n (pc' := 2) 1 dX9_lowestTerm_1 rfl rfl ?_
  refine g_callSlp (pc' := 5) (As := [vl a, vl b]) (S := []) dX9_lowestTerm_2 rfl m_X9_306 w_X9_commonDivisor (c_X9_commonDivisor X M a ha b hb) rfl (by decide) (by decide) rfl (Nat.le_of_ble_eq_true rfl) (fun z2 q1 => ?_)
  refine g_lstore (pc' := 7) (L' := [(5, vl z2), (0, vl a), (2, vl b), (4, vi c)]) dX9_lowestTerm_5 rfl (by decide) rfl ?_
  refine g_lload (pc' := 9) 0 dX9_lowestTerm_7 rfl rfl ?_
  refine g_lconst (pc' := 10) (v := 0) dX9_lowestTerm_9 rfl (by decide) ?_
  refine g_lc_le (pc' := 14) (tgt := 24) ⟨by omega, by omega⟩ (by decide) dX9_lowestTerm_10 dX9_lowestTerm_11 rfl rfl (fun c3 => ?_) (fun c3 => ?_)
  · refine g_ldc2 (pc' := 27) (v := (-1)) dX9_lowestTerm_24 rfl k_X9_104 ?_
    refine g_lreturn dX9_lowestTerm_27 ?_
    exact ⟨rfl, by first | assumption | decide⟩
  · refine g_iload (pc' := 16) 3 dX9_lowestTerm_14 rfl rfl ?_
    refine g_iconst (pc' := 17) dX9_lowestTerm_16 rfl ?_
    refine g_iconst (pc' := 18) dX9_lowestTerm_17 rfl ?_
    refine g_callSip (pc' := 21) (As := [vi c, vi 0, vi 1]) (S := []) dX9_lowestTerm_18 rfl m_X9_191 w_X9_isWithin (c_X9_isWithin X M c hc 0 (by decide) 1 (by decide)) rfl (by decide) (by decide) rfl (Nat.le_of_ble_eq_true rfl) (fun z5 q4 => ?_)
    refine g_if_ne (pc' := 24) (tgt := 28) ⟨by omega, by omega⟩ dX9_lowestTerm_21 rfl rfl (fun c6 => ?_) (fun c6 => ?_)
    · replace q4 := q4.resolve_right (fun h => c6 h.1)
      refine g_iload (pc' := 30) 3 dX9_lowestTerm_28 rfl rfl ?_
      refine g_if_ne (pc' := 33) (tgt := 40) hc dX9_lowestTerm_30 rfl rfl (fun c7 => ?_) (fun c7 => ?_)
      · refine g_lload_n (pc' := 41) 2 dX9_lowestTerm_40 rfl rfl ?_
        refine g_lload (pc' := 43) 0 dX9_lowestTerm_41 rfl rfl ?_
        refine g_ldiv (pc' := 44) hb ⟨by omega, by omega⟩ (by omega) dX9_lowestTerm_43 rfl ?_
        refine g_nrmL (fun n8 rn8 en8 => ?_)
        refine g_lreturn dX9_lowestTerm_44 ?_
        exact ⟨rfl, by first | assumption | decide⟩
      · refine g_lload_n (pc' := 34) 1 dX9_lowestTerm_33 rfl rfl ?_
        refine g_lload (pc' := 36) 0 dX9_lowestTerm_34 rfl rfl ?_
        refine g_ldiv (pc' := 37) ha ⟨by omega, by omega⟩ (by omega) dX9_lowestTerm_36 rfl ?_
        refine g_nrmL (fun n9 rn9 en9 => ?_)
        refine g_goto (tgt := 44) dX9_lowestTerm_37 rfl ?_
        refine g_lreturn dX9_lowestTerm_44 ?_
        exact ⟨rfl, by first | assumption | decide⟩
    · replace q4 := q4.resolve_left (fun h => absurd (c6.symm.trans h.1) (by decide))
      refine g_ldc2 (pc' := 27) (v := (-1)) dX9_lowestTerm_24 rfl k_X9_104 ?_
      refine g_lreturn dX9_lowestTerm_27 ?_
      exact ⟨rfl, by first | assumption | decide⟩
set_option maxHeartbeats 4000000 in
set_option maxRecDepth 100000 in
theorem c_X9_powerTerm (X : Cx) (M : Mm) (a : Int) (ha : inI a) (b : Int) (hb : inI b) (n : Int) (hn : inI n) (c : Int) (hc : inI c) : Con X 2 yX9_powerTerm cX9_powerTerm 4 (some .long) [vi a, vi b, vi n, vi c] M (Ql (fun r M1 => M1 = M ∧ (inL r))) := by
  refine Con.ofG rfl (Nat.le_of_ble_eq_true rfl) ?_
  show G X 2 RX9 cX9_powerTerm 4 (some .long) (Ql (fun r M1 => M1 = M ∧ (inL r))) 0 [(0, vi a), (1, vi b), (2, vi n), (3, vi c)] [] M
  refine g_iload_n (pc' := 1) 0 dX9_powerTerm_0 rfl rfl ?_
  refine g_i2l (pc' := 2) ha dX9_powerTerm_1 rfl ?_
  refine g_iload_n (pc' := 3) 2 dX9_powerTerm_2 rfl rfl ?_
  refine g_callSlp (pc' := 6) (As := [vl a, vi n]) (S := []) dX9_powerTerm_3 rfl m_X9_200 w_X9_power (c_X9_power X M a ⟨by omega, by omega⟩ n hn) rfl (by decide) (by decide) rfl (Nat.le_of_ble_eq_true rfl) (fun z2 q1 => ?_)
  refine g_iload_n (pc' := 7) 1 dX9_powerTerm_6 rfl rfl ?_
  refine g_i2l (pc' := 8) hb dX9_powerTerm_7 rfl ?_
  refine g_iload_n (pc' := 9) 2 dX9_powerTerm_8 rfl rfl ?_
  refine g_callSlp (pc' := 12) (As := [vl b, vi n]) (S := [vl z2]) dX9_powerTerm_9 rfl m_X9_200 w_X9_power (c_X9_power X M b ⟨by omega, by omega⟩ n hn) rfl (by decide) (by decide) rfl (Nat.le_of_ble_eq_true rfl) (fun z4 q3 => ?_)
  refine g_iload_n (pc' := 13) 3 dX9_powerTerm_12 rfl rfl ?_
  refine g_callSlp (pc' := 16) (As := [vl z2, vl z4, vi c]) (S := []) dX9_powerTerm_13 rfl m_X9_240 w_X9_lowestTerm (c_X9_lowestTerm X M z2 ⟨by omega, by omega⟩ z4 ⟨by omega, by omega⟩ c hc) rfl (by decide) (by decide) rfl (Nat.le_of_ble_eq_true rfl) (fun z6 q5 => ?_)
  refine g_lreturn dX9_powerTerm_16 ?_
  exact ⟨rfl, by assumption⟩
set_option maxHeartbeats 4000000 in
set_option maxRecDepth 100000 in
theorem c_X7_tasteOf (X : Cx) (M : Mm) (t : Nat) (ht : isT t) (ho : okT M t) (g : Int) (hg : inI g) (s : Int) (hs : inI s) : Con X 1 yX7_tasteOf cX7_tasteOf 5 (some .int) [vr X t, vi g, vi s] M (Qi (fun r M1 => M1 = M ∧ (inI r))) := by
  refine Con.ofG rfl (Nat.le_of_ble_eq_true rfl) ?_
  show G X 1 RX7 cX7_tasteOf 5 (some .int) (Qi (fun r M1 => M1 = M ∧ (inI r))) 0 [(0, vr X t), (1, vi g), (2, vi s)] [] M
  have ho5 := ho.2.1
  have ho4 := ho.1
  refine g_aload_n (pc' := 1) 0 dX7_tasteOf_0 rfl rfl ?_
  refine g_iload_n (pc' := 2) 1 dX7_tasteOf_1 rfl rfl ?_
  refine g_callVip (pc' := 5) (As := [vi g]) (b := t) (S := []) dX7_tasteOf_2 rfl m_X7_33 w_X7_has (c_X7_has X M t ht ho g hg) rfl ⟨_, _, _, ht.o, rfl, rfl⟩ (by decide) (by decide) rfl (Nat.le_of_ble_eq_true rfl) (fun z2 q1 => ?_)
  refine g_if_eq (pc' := 8) (tgt := 17) ⟨by omega, by omega⟩ dX7_tasteOf_5 rfl rfl (fun c3 => ?_) (fun c3 => ?_)
  · replace q1 := q1.resolve_left (fun h => absurd (c3.symm.trans h.1) (by decide))
    refine g_iconst (pc' := 18) dX7_tasteOf_17 rfl ?_
    refine g_ireturn dX7_tasteOf_18 ?_
    exact ⟨rfl, by first | assumption | decide⟩
  · replace q1 := q1.resolve_right (fun h => c3 h.1)
    refine g_iload_n (pc' := 9) 2 dX7_tasteOf_8 rfl rfl ?_
    refine g_if_lt (pc' := 12) (tgt := 17) hs dX7_tasteOf_9 rfl rfl (fun c4 => ?_) (fun c4 => ?_)
    · refine g_iconst (pc' := 18) dX7_tasteOf_17 rfl ?_
      refine g_ireturn dX7_tasteOf_18 ?_
      exact ⟨rfl, by first | assumption | decide⟩
    · refine g_iload_n (pc' := 13) 2 dX7_tasteOf_12 rfl rfl ?_
      refine g_iconst (pc' := 14) dX7_tasteOf_13 rfl ?_
      refine g_ic_lt (pc' := 17) (tgt := 19) hs (by decide) dX7_tasteOf_14 rfl rfl (fun c5 => ?_) (fun c5 => ?_)
      · refine g_aload_n (pc' := 20) 0 dX7_tasteOf_19 rfl rfl ?_
        refine g_getL (pc' := 23) dX7_tasteOf_20 rfl f_X7_25 ht.o rfl (fun v6 ev6 rv6 => ?_)
        refine g_aload_n (pc' := 24) 0 dX7_tasteOf_23 rfl rfl ?_
        refine g_getR (pc' := 27) dX7_tasteOf_24 rfl f_X7_15 ht.o rfl ?_
        refine g_iload_n (pc' := 28) 1 dX7_tasteOf_27 rfl rfl ?_
        refine g_iald (pc' := 29) dX7_tasteOf_28 rfl ht.f (by omega) (by omega) (fun v7 ev7 rv7 => ?_)
        refine g_i2l (pc' := 30) rv7 dX7_tasteOf_29 rfl ?_
        refine g_lmul (pc' := 31) dX7_tasteOf_30 rfl ?_
        refine g_nrmL (fun n8 rn8 en8 => ?_)
        refine g_lstore_n (pc' := 32) (i := 3) (L' := [(3, vl n8), (0, vr X t), (1, vi g), (2, vi s)]) dX7_tasteOf_31 rfl rfl (by decide) rfl ?_
        refine g_lload_n (pc' := 33) 0 dX7_tasteOf_32 rfl rfl ?_
        refine g_lconst (pc' := 34) (v := 0) dX7_tasteOf_33 rfl (by decide) ?_
        refine g_lc_gt (pc' := 38) (tgt := 42) rn8 (by decide) dX7_tasteOf_34 dX7_tasteOf_35 rfl rfl (fun c9 => ?_) (fun c9 => ?_)
        · refine g_ldc2 (pc' := 45) (v := 100) dX7_tasteOf_42 rfl k_X7_37 ?_
          refine g_aload_n (pc' := 46) 1 dX7_tasteOf_45 rfl rfl ?_
          refine g_getD (pc' := 49) dX7_tasteOf_46 rfl f_X7_18 ht.o rfl ?_
          refine g_iload_n (pc' := 50) 2 dX7_tasteOf_49 rfl rfl ?_
          refine g_iconst (pc' := 51) dX7_tasteOf_50 rfl ?_
          refine g_imul (pc' := 52) dX7_tasteOf_51 rfl ?_
          refine g_iload_n (pc' := 53) 3 dX7_tasteOf_52 rfl rfl ?_
          refine g_iadd (pc' := 54) dX7_tasteOf_53 rfl ?_
          refine g_lald (pc' := 55) dX7_tasteOf_54 rfl (ho.p ht) (by omega) (by omega) (fun v10 ev10 rv10 => ?_)
          refine g_lmul (pc' := 56) dX7_tasteOf_55 rfl ?_
          refine g_nrmL (fun n11 rn11 en11 => ?_)
          refine g_lload_n (pc' := 57) 0 dX7_tasteOf_56 rfl rfl ?_
          refine g_ldiv (pc' := 58) rn11 rn8 (by omega) dX7_tasteOf_57 rfl ?_
          refine g_nrmL (fun n12 rn12 en12 => ?_)
          refine g_l2i (pc' := 59) dX7_tasteOf_58 rfl ?_
          refine g_nrmI (fun n13 rn13 en13 => ?_)
          have bn13 : (-2147483648 ≤ n12 ∧ n12 ≤ 2147483647) → n13 = n12 := fun h => en13.trans (bm32 h)
          refine g_ireturn dX7_tasteOf_59 ?_
          exact ⟨rfl, by first | assumption | decide⟩
        · refine g_iconst (pc' := 39) dX7_tasteOf_38 rfl ?_
          refine g_goto (tgt := 59) dX7_tasteOf_39 rfl ?_
          refine g_ireturn dX7_tasteOf_59 ?_
          exact ⟨rfl, by first | assumption | decide⟩
      · refine g_iconst (pc' := 18) dX7_tasteOf_17 rfl ?_
        refine g_ireturn dX7_tasteOf_18 ?_
        exact ⟨rfl, by first | assumption | decide⟩
set_option maxHeartbeats 4000000 in
set_option maxRecDepth 100000 in
theorem c_X7_isNear (X : Cx) (M : Mm) (t : Nat) (ht : isT t) (ho : okT M t) (g : Int) (hg : inI g) (s : Int) (hs : inI s) (k : Int) (hk : inI k) (w : Int) (hw : inI w) : Con X 1 yX7_isNear cX7_isNear 7 (some .boolean) [vr X t, vi g, vi s, vi k, vi w] M (Qi (fun r M1 => M1 = M ∧ (r = 0 ∨ r = 1))) := by
  refine Con.ofG rfl (Nat.le_of_ble_eq_true rfl) ?_
  show G X 1 RX7 cX7_isNear 7 (some .boolean) (Qi (fun r M1 => M1 = M ∧ (r = 0 ∨ r = 1))) 0 [(0, vr X t), (1, vi g), (2, vi s), (3, vi k), (4, vi w)] [] M
  have ho5 := ho.2.1
  have ho4 := ho.1
  refine g_aload_n (pc' := 1) 0 dX7_isNear_0 rfl rfl ?_
  refine g_iload_n (pc' := 2) 1 dX7_isNear_1 rfl rfl ?_
  refine g_callVip (pc' := 5) (As := [vi g]) (b := t) (S := []) dX7_isNear_2 rfl m_X7_33 w_X7_has (c_X7_has X M t ht ho g hg) rfl ⟨_, _, _, ht.o, rfl, rfl⟩ (by decide) (by decide) rfl (Nat.le_of_ble_eq_true rfl) (fun z2 q1 => ?_)
  refine g_if_eq (pc' := 8) (tgt := 26) ⟨by omega, by omega⟩ dX7_isNear_5 rfl rfl (fun c3 => ?_) (fun c3 => ?_)
  · replace q1 := q1.resolve_left (fun h => absurd (c3.symm.trans h.1) (by decide))
    refine g_iconst (pc' := 27) dX7_isNear_26 rfl ?_
    refine g_zreturn dX7_isNear_27 (by omega) ?_
    exact ⟨rfl, by omega⟩
  · replace q1 := q1.resolve_right (fun h => c3 h.1)
    refine g_iload_n (pc' := 9) 2 dX7_isNear_8 rfl rfl ?_
    refine g_if_lt (pc' := 12) (tgt := 26) hs dX7_isNear_9 rfl rfl (fun c4 => ?_) (fun c4 => ?_)
    · refine g_iconst (pc' := 27) dX7_isNear_26 rfl ?_
      refine g_zreturn dX7_isNear_27 (by omega) ?_
      exact ⟨rfl, by omega⟩
    · refine g_iload_n (pc' := 13) 2 dX7_isNear_12 rfl rfl ?_
      refine g_iconst (pc' := 14) dX7_isNear_13 rfl ?_
      refine g_ic_ge (pc' := 17) (tgt := 26) hs (by decide) dX7_isNear_14 rfl rfl (fun c5 => ?_) (fun c5 => ?_)
      · refine g_iconst (pc' := 27) dX7_isNear_26 rfl ?_
        refine g_zreturn dX7_isNear_27 (by omega) ?_
        exact ⟨rfl, by omega⟩
      · refine g_aload_n (pc' := 18) 0 dX7_isNear_17 rfl rfl ?_
        refine g_getR (pc' := 21) dX7_isNear_18 rfl f_X7_15 ht.o rfl ?_
        refine g_iload_n (pc' := 22) 1 dX7_isNear_21 rfl rfl ?_
        refine g_iald (pc' := 23) dX7_isNear_22 rfl ht.f (by omega) (by omega) (fun v6 ev6 rv6 => ?_)
        refine g_if_gt (pc' := 26) (tgt := 28) rv6 dX7_isNear_23 rfl rfl (fun c7 => ?_) (fun c7 => ?_)
        · refine g_aload_n (pc' := 29) 0 dX7_isNear_28 rfl rfl ?_
          refine g_getL (pc' := 32) dX7_isNear_29 rfl f_X7_25 ht.o rfl (fun v8 ev8 rv8 => ?_)
          refine g_aload_n (pc' := 33) 0 dX7_isNear_32 rfl rfl ?_
          refine g_getR (pc' := 36) dX7_isNear_33 rfl f_X7_15 ht.o rfl ?_
          refine g_iload_n (pc' := 37) 1 dX7_isNear_36 rfl rfl ?_
          refine g_iald (pc' := 38) dX7_isNear_37 rfl ht.f (by omega) (by omega) (fun v9 ev9 rv9 => ?_)
          obtain rfl : v6 = v9 := ev6.trans ev9.symm
          refine g_i2l (pc' := 39) rv6 dX7_isNear_38 rfl ?_
          refine g_lmul (pc' := 40) dX7_isNear_39 rfl ?_
          refine g_nrmL (fun n10 rn10 en10 => ?_)
          refine g_lstore (pc' := 42) (L' := [(5, vl n10), (0, vr X t), (1, vi g), (2, vi s), (3, vi k), (4, vi w)]) dX7_isNear_40 rfl (by decide) rfl ?_
          refine g_ldc2 (pc' := 45) (v := 100) dX7_isNear_42 rfl k_X7_37 ?_
          refine g_aload_n (pc' := 46) 1 dX7_isNear_45 rfl rfl ?_
          refine g_getD (pc' := 49) dX7_isNear_46 rfl f_X7_18 ht.o rfl ?_
          refine g_iload_n (pc' := 50) 2 dX7_isNear_49 rfl rfl ?_
          refine g_iconst (pc' := 51) dX7_isNear_50 rfl ?_
          refine g_imul (pc' := 52) dX7_isNear_51 rfl ?_
          refine g_iload_n (pc' := 53) 3 dX7_isNear_52 rfl rfl ?_
          refine g_iadd (pc' := 54) dX7_isNear_53 rfl ?_
          refine g_lald (pc' := 55) dX7_isNear_54 rfl (ho.p ht) (by omega) (by omega) (fun v11 ev11 rv11 => ?_)
          refine g_lmul (pc' := 56) dX7_isNear_55 rfl ?_
          refine g_nrmL (fun n12 rn12 en12 => ?_)
          refine g_iload_n (pc' := 57) 4 dX7_isNear_56 rfl rfl ?_
          refine g_i2l (pc' := 58) hk dX7_isNear_57 rfl ?_
          refine g_lload (pc' := 60) 0 dX7_isNear_58 rfl rfl ?_
          refine g_lmul (pc' := 61) dX7_isNear_60 rfl ?_
          refine g_nrmL (fun n13 rn13 en13 => ?_)
          refine g_lsub (pc' := 62) dX7_isNear_61 rfl ?_
          refine g_nrmL (fun n14 rn14 en14 => ?_)
          refine g_mabsL (pc' := 65) dX7_isNear_62 rfl m_X7_47 ms_abs mi_Math mc_abs (by decide) (Nat.le_of_ble_eq_true rfl) rn14 ?_
          refine g_nrmL (fun n15 rn15 en15 => ?_)
          refine g_iload (pc' := 67) 5 dX7_isNear_65 rfl rfl ?_
          refine g_i2l (pc' := 68) hw dX7_isNear_67 rfl ?_
          refine g_lload (pc' := 70) 0 dX7_isNear_68 rfl rfl ?_
          refine g_lmul (pc' := 71) dX7_isNear_70 rfl ?_
          refine g_nrmL (fun n16 rn16 en16 => ?_)
          refine g_lc_gt (pc' := 75) (tgt := 79) rn15 rn16 dX7_isNear_71 dX7_isNear_72 rfl rfl (fun c17 => ?_) (fun c17 => ?_)
          · refine g_iconst (pc' := 80) dX7_isNear_79 rfl ?_
            refine g_zreturn dX7_isNear_80 (by omega) ?_
            exact ⟨rfl, by omega⟩
          · refine g_iconst (pc' := 76) dX7_isNear_75 rfl ?_
            refine g_goto (tgt := 80) dX7_isNear_76 rfl ?_
            refine g_zreturn dX7_isNear_80 (by omega) ?_
            exact ⟨rfl, by omega⟩
        · refine g_iconst (pc' := 27) dX7_isNear_26 rfl ?_
          refine g_zreturn dX7_isNear_27 (by omega) ?_
          exact ⟨rfl, by omega⟩
set_option maxHeartbeats 4000000 in
set_option maxRecDepth 100000 in
theorem c_X7_canCarry (X : Cx) (M : Mm) (t : Nat) (ht : isT t) (ho : okT M t) (g : Int) (hg : inI g) (k : Int) (hk : inI k) (w : Int) (hw : inI w) : Con X 2 yX7_canCarry cX7_canCarry 4 (some .boolean) [vr X t, vi g, vi k, vi w] M (Qi (fun r M1 => M1 = M ∧ ((r = 0 ∨ r = 1) ∧ (r = 1 → 1 ≤ w ∧ w ≤ 60 ∧ 0 ≤ g ∧ g < M t 5 ∧ 0 ≤ k ∧ k < M t 5)))) := by
  refine Con.ofG rfl (Nat.le_of_ble_eq_true rfl) ?_
  show G X 2 RX7 cX7_canCarry 4 (some .boolean) (Qi (fun r M1 => M1 = M ∧ ((r = 0 ∨ r = 1) ∧ (r = 1 → 1 ≤ w ∧ w ≤ 60 ∧ 0 ≤ g ∧ g < M t 5 ∧ 0 ≤ k ∧ k < M t 5)))) 0 [(0, vr X t), (1, vi g), (2, vi k), (3, vi w)] [] M
  have ho5 := ho.2.1
  have ho4 := ho.1
  refine g_iload_n (pc' := 1) 3 dX7_canCarry_0 rfl rfl ?_
  refine g_callSip (pc' := 4) (As := [vi w]) (S := []) dX7_canCarry_1 rfl m_X7_57 w_X9_isAmount (c_X9_isAmount X M w hw) rfl (by decide) (by decide) rfl (Nat.le_of_ble_eq_true rfl) (fun z2 q1 => ?_)
  refine g_if_eq (pc' := 7) (tgt := 40) ⟨by omega, by omega⟩ dX7_canCarry_4 rfl rfl (fun c3 => ?_) (fun c3 => ?_)
  · replace q1 := q1.resolve_left (fun h => absurd (c3.symm.trans h.1) (by decide))
    refine g_iconst (pc' := 41) dX7_canCarry_40 rfl ?_
    refine g_zreturn dX7_canCarry_41 (by omega) ?_
    exact ⟨rfl, by omega⟩
  · replace q1 := q1.resolve_right (fun h => c3 h.1)
    refine g_iload_n (pc' := 8) 1 dX7_canCarry_7 rfl rfl ?_
    refine g_iload_n (pc' := 9) 2 dX7_canCarry_8 rfl rfl ?_
    refine g_ic_eq (pc' := 12) (tgt := 40) hg hk dX7_canCarry_9 rfl rfl (fun c4 => ?_) (fun c4 => ?_)
    · refine g_iconst (pc' := 41) dX7_canCarry_40 rfl ?_
      refine g_zreturn dX7_canCarry_41 (by omega) ?_
      exact ⟨rfl, by omega⟩
    · refine g_aload_n (pc' := 13) 0 dX7_canCarry_12 rfl rfl ?_
      refine g_iload_n (pc' := 14) 1 dX7_canCarry_13 rfl rfl ?_
      refine g_callVip (pc' := 17) (As := [vi g]) (b := t) (S := []) dX7_canCarry_14 rfl m_X7_39 w_X7_fullOf (c_X7_fullOf X M t ht ho g hg) rfl ⟨_, _, _, ht.o, rfl, rfl⟩ (by decide) (by decide) rfl (Nat.le_of_ble_eq_true rfl) (fun z6 q5 => ?_)
      refine g_iload_n (pc' := 18) 3 dX7_canCarry_17 rfl rfl ?_
      refine g_ic_lt (pc' := 21) (tgt := 40) ⟨by omega, by omega⟩ hw dX7_canCarry_18 rfl rfl (fun c7 => ?_) (fun c7 => ?_)
      · refine g_iconst (pc' := 41) dX7_canCarry_40 rfl ?_
        refine g_zreturn dX7_canCarry_41 (by omega) ?_
        exact ⟨rfl, by omega⟩
      · refine g_aload_n (pc' := 22) 0 dX7_canCarry_21 rfl rfl ?_
        refine g_iload_n (pc' := 23) 2 dX7_canCarry_22 rfl rfl ?_
        refine g_callVip (pc' := 26) (As := [vi k]) (b := t) (S := []) dX7_canCarry_23 rfl m_X7_63 w_X7_sizeOf (c_X7_sizeOf X M t ht ho k hk) rfl ⟨_, _, _, ht.o, rfl, rfl⟩ (by decide) (by decide) rfl (Nat.le_of_ble_eq_true rfl) (fun z9 q8 => ?_)
        refine g_aload_n (pc' := 27) 0 dX7_canCarry_26 rfl rfl ?_
        refine g_iload_n (pc' := 28) 2 dX7_canCarry_27 rfl rfl ?_
        refine g_callVip (pc' := 31) (As := [vi k]) (b := t) (S := [vi z9]) dX7_canCarry_28 rfl m_X7_39 w_X7_fullOf (c_X7_fullOf X M t ht ho k hk) rfl ⟨_, _, _, ht.o, rfl, rfl⟩ (by decide) (by decide) rfl (Nat.le_of_ble_eq_true rfl) (fun z11 q10 => ?_)
        refine g_isub (pc' := 32) dX7_canCarry_31 rfl ?_
        refine g_nrmI (fun n12 rn12 en12 => ?_)
        have bn12 : (-2147483648 ≤ z9 - z11 ∧ z9 - z11 ≤ 2147483647) → n12 = z9 - z11 := fun h => en12.trans (bm32 h)
        refine g_iload_n (pc' := 33) 3 dX7_canCarry_32 rfl rfl ?_
        refine g_ic_lt (pc' := 36) (tgt := 40) rn12 hw dX7_canCarry_33 rfl rfl (fun c13 => ?_) (fun c13 => ?_)
        · refine g_iconst (pc' := 41) dX7_canCarry_40 rfl ?_
          refine g_zreturn dX7_canCarry_41 (by omega) ?_
          exact ⟨rfl, by omega⟩
        · refine g_iconst (pc' := 37) dX7_canCarry_36 rfl ?_
          refine g_goto (tgt := 41) dX7_canCarry_37 rfl ?_
          refine g_zreturn dX7_canCarry_41 (by omega) ?_
          exact ⟨rfl, by omega⟩
set_option maxHeartbeats 4000000 in
set_option maxRecDepth 100000 in
theorem l_X7_divideBy_3 (X : Cx) (M : Mm) (t : Nat) (ht : isT t) (ho : okT M t) (a : Nat) (ha : a = t + 3 ∨ a = t + 4) (x : Int) (hx : inL x) : ∀ (kk : Nat) (i : Int) (M1 : Mm) (h0 : 0 ≤ i) (h1 : i ≤ 24) (ok1 : okT M1 t) (fr1 : Fr (inT t) M M1) (gl1 : M1 t 5 = M t 5), (24 - i).toNat = kk → G X 0 RX7 cX7_divideBy 5 none (Qv (fun M1 => okT M1 t ∧ Fr (inT t) M M1 ∧ M1 t 5 = M t 5)) 3 [(4, vi i), (0, vr X t), (1, vr X a), (2, vl x)] [] M1 := by
  intro kk
  induction kk using Nat.strongRecOn with
  | ind kk ih =>
    intro i M1 h0 h1 ok1 fr1 gl1 hmes
    have ho5 := ho.2.1
    have ho4 := ho.1
    have oa := ok1.1
    have ob := ok1.2.1
    refine g_iload (pc' := 5) 0 dX7_divideBy_3 rfl rfl ?_
    refine g_aload_n (pc' := 6) 1 dX7_divideBy_5 rfl rfl ?_
    refine g_getI (pc' := 9) dX7_divideBy_6 rfl f_X7_29 ht.o rfl (fun v1 ev1 rv1 => ?_)
    refine g_iconst (pc' := 10) dX7_divideBy_9 rfl ?_
    refine g_imul (pc' := 11) dX7_divideBy_10 rfl ?_
    refine g_ic_ge (pc' := 14) (tgt := 34) ⟨by omega, by omega⟩ ⟨by omega, by omega⟩ dX7_divideBy_11 rfl rfl (fun c2 => ?_) (fun c2 => ?_)
    · refine g_vreturn dX7_divideBy_34 ?_
      exact ⟨ok1, fr1, gl1⟩
    · refine g_lload_n (pc' := 15) 3 dX7_divideBy_14 rfl rfl ?_
      refine g_lconst (pc' := 16) (v := 1) dX7_divideBy_15 rfl (by decide) ?_
      refine g_lc_le (pc' := 20) (tgt := 34) hx (by decide) dX7_divideBy_16 dX7_divideBy_17 rfl rfl (fun c3 => ?_) (fun c3 => ?_)
      · refine g_vreturn dX7_divideBy_34 ?_
        exact ⟨ok1, fr1, gl1⟩
      · refine g_aload_n (pc' := 21) 2 dX7_divideBy_20 rfl rfl ?_
        refine g_iload (pc' := 23) 0 dX7_divideBy_21 rfl rfl ?_
        refine g_dup2_11 (pc' := 24) dX7_divideBy_23 rfl rfl rfl ?_
        refine g_lald (pc' := 25) dX7_divideBy_24 rfl (ht.ab ha) (by omega) (by omega) (fun v4 ev4 rv4 => ?_)
        refine g_lload_n (pc' := 26) 3 dX7_divideBy_25 rfl rfl ?_
        refine g_ldiv (pc' := 27) rv4 hx (by omega) dX7_divideBy_26 rfl ?_
        refine g_nrmL (fun n5 rn5 en5 => ?_)
        refine g_last (pc' := 28) dX7_divideBy_27 rfl (ht.ab ha) (by omega) (by omega) rn5 (fun M6 hM6 => ?_)
        have kM6 : okT M6 t := okT.wr ok1 hM6 (ab_in ha).2
        have fM6 : Fr (inT t) M M6 := Fr.wr fr1 hM6 (ab_in ha).1
        have gM6 : M6 t 5 = M t 5 := (mu5 _ _ hM6 (fun z => absurd z.symm (ab_in ha).2)).trans gl1
        refine g_iinc (pc' := 31) (L' := [(4, vi (i + 1)), (0, vr X t), (1, vr X a), (2, vl x)]) 0 dX7_divideBy_28 rfl rfl (by decide) rfl ?_
        refine g_goto (tgt := 3) dX7_divideBy_31 rfl ?_
        refine g_sub [0, 1, 2, 3] rfl ?_
        exact ih _ (by omega) (i + 1) M6 (by omega) (by omega) kM6 fM6 gM6 rfl
set_option maxHeartbeats 4000000 in
set_option maxRecDepth 100000 in
theorem c_X7_divideBy (X : Cx) (M : Mm) (t : Nat) (ht : isT t) (ho : okT M t) (a : Nat) (ha : a = t + 3 ∨ a = t + 4) (x : Int) (hx : inL x) : Con X 0 yX7_divideBy cX7_divideBy 5 none [vr X t, vr X a, vl x] M (Qv (fun M1 => okT M1 t ∧ Fr (inT t) M M1 ∧ M1 t 5 = M t 5)) := by
  refine Con.ofG rfl (Nat.le_of_ble_eq_true rfl) ?_
  show G X 0 RX7 cX7_divideBy 5 none (Qv (fun M1 => okT M1 t ∧ Fr (inT t) M M1 ∧ M1 t 5 = M t 5)) 0 [(0, vr X t), (1, vr X a), (2, vl x)] [] M
  have ho5 := ho.2.1
  have ho4 := ho.1
  refine g_iconst (pc' := 1) dX7_divideBy_0 rfl ?_
  refine g_istore (pc' := 3) (L' := [(4, vi 0), (0, vr X t), (1, vr X a), (2, vl x)]) dX7_divideBy_1 rfl (by decide) rfl ?_
  refine g_sub [0, 1, 2, 3] rfl ?_
  exact l_X7_divideBy_3 X M t ht ho a ha x hx _ 0 M (by omega) (by omega) ho Fr.rf rfl rfl
set_option maxHeartbeats 4000000 in
set_option maxRecDepth 100000 in
theorem l_X7_divisorOf_6 (X : Cx) (M : Mm) (t : Nat) (ht : isT t) (ho : okT M t) (a : Nat) (ha : a = t + 3 ∨ a = t + 4) (x : Int) (hx : inL x) : ∀ (kk : Nat) (u : Int) (i : Int) (hu : inL u) (h0 : 0 ≤ i) (h1 : i ≤ 24), (24 - i).toNat = kk → G X 1 RX7 cX7_divisorOf 7 (some .long) (Ql (fun r M1 => M1 = M ∧ (inL r))) 6 [(4, vl u), (6, vi i), (0, vr X t), (1, vr X a)] [] M := by
  intro kk
  induction kk using Nat.strongRecOn with
  | ind kk ih =>
    intro u i hu h0 h1 hmes
    have ho5 := ho.2.1
    have ho4 := ho.1
    refine g_iload (pc' := 8) 1 dX7_divisorOf_6 rfl rfl ?_
    refine g_aload_n (pc' := 9) 2 dX7_divisorOf_8 rfl rfl ?_
    refine g_getI (pc' := 12) dX7_divisorOf_9 rfl f_X7_29 ht.o rfl (fun v1 ev1 rv1 => ?_)
    refine g_iconst (pc' := 13) dX7_divisorOf_12 rfl ?_
    refine g_imul (pc' := 14) dX7_divisorOf_13 rfl ?_
    refine g_ic_ge (pc' := 17) (tgt := 41) ⟨by omega, by omega⟩ ⟨by omega, by omega⟩ dX7_divisorOf_14 rfl rfl (fun c2 => ?_) (fun c2 => ?_)
    · refine g_lload (pc' := 43) 0 dX7_divisorOf_41 rfl rfl ?_
      refine g_lreturn dX7_divisorOf_43 ?_
      exact ⟨rfl, by assumption⟩
    · refine g_lload (pc' := 19) 0 dX7_divisorOf_17 rfl rfl ?_
      refine g_lconst (pc' := 20) (v := 1) dX7_divisorOf_19 rfl (by decide) ?_
      refine g_lc_le (pc' := 24) (tgt := 41) ⟨by omega, by omega⟩ (by decide) dX7_divisorOf_20 dX7_divisorOf_21 rfl rfl (fun c3 => ?_) (fun c3 => ?_)
      · refine g_lload (pc' := 43) 0 dX7_divisorOf_41 rfl rfl ?_
        refine g_lreturn dX7_divisorOf_43 ?_
        exact ⟨rfl, by assumption⟩
      · refine g_aload_n (pc' := 25) 3 dX7_divisorOf_24 rfl rfl ?_
        refine g_iload (pc' := 27) 1 dX7_divisorOf_25 rfl rfl ?_
        refine g_lald (pc' := 28) dX7_divisorOf_27 rfl (ht.ab ha) (by omega) (by omega) (fun v4 ev4 rv4 => ?_)
        refine g_lload (pc' := 30) 0 dX7_divisorOf_28 rfl rfl ?_
        refine g_callSlp (pc' := 33) (As := [vl v4, vl u]) (S := []) dX7_divisorOf_30 rfl m_X7_88 w_X9_commonDivisor (c_X9_commonDivisor X M v4 rv4 u ⟨by omega, by omega⟩) rfl (by decide) (by decide) rfl (Nat.le_of_ble_eq_true rfl) (fun z6 q5 => ?_)
        refine g_lstore (pc' := 35) (L' := [(4, vl z6), (6, vi i), (0, vr X t), (1, vr X a)]) dX7_divisorOf_33 rfl (by decide) rfl ?_
        refine g_iinc (pc' := 38) (L' := [(6, vi (i + 1)), (4, vl z6), (0, vr X t), (1, vr X a)]) 1 dX7_divisorOf_35 rfl rfl (by decide) rfl ?_
        refine g_goto (tgt := 6) dX7_divisorOf_38 rfl ?_
        refine g_sub [1, 0, 2, 3] rfl ?_
        exact ih _ (by omega) z6 (i + 1) (by assumption) (by omega) (by omega) rfl
set_option maxHeartbeats 4000000 in
set_option maxRecDepth 100000 in
theorem c_X7_divisorOf (X : Cx) (M : Mm) (t : Nat) (ht : isT t) (ho : okT M t) (a : Nat) (ha : a = t + 3 ∨ a = t + 4) (x : Int) (hx : inL x) : Con X 1 yX7_divisorOf cX7_divisorOf 7 (some .long) [vr X t, vr X a, vl x] M (Ql (fun r M1 => M1 = M ∧ (inL r))) := by
  refine Con.ofG rfl (Nat.le_of_ble_eq_true rfl) ?_
  show G X 1 RX7 cX7_divisorOf 7 (some .long) (Ql (fun r M1 => M1 = M ∧ (inL r))) 0 [(0, vr X t), (1, vr X a), (2, vl x)] [] M
  have ho5 := ho.2.1
  have ho4 := ho.1
  refine g_lload_n (pc' := 1) 2 dX7_divisorOf_0 rfl rfl ?_
  refine g_lstore (pc' := 3) (L' := [(4, vl x), (0, vr X t), (1, vr X a), (2, vl x)]) dX7_divisorOf_1 rfl (by decide) rfl ?_
  refine g_iconst (pc' := 4) dX7_divisorOf_3 rfl ?_
  refine g_istore (pc' := 6) (L' := [(6, vi 0), (4, vl x), (0, vr X t), (1, vr X a), (2, vl x)]) dX7_divisorOf_4 rfl (by decide) rfl ?_
  refine g_sub [1, 0, 2, 3] rfl ?_
  exact l_X7_divisorOf_6 X M t ht ho a ha x hx _ x 0 (by assumption) (by omega) (by omega) rfl
set_option maxHeartbeats 4000000 in
set_option maxRecDepth 100000 in
theorem l_X7_share_45 (X : Cx) (M : Mm) (t : Nat) (ht : isT t) (ho : okT M t) (g : Int) (hg : inI g) (k : Int) (hk : inI k) (w : Int) (hw : inI w) (pg : 0 ≤ g ∧ g < M t 5) : ∀ (kk : Nat) (i : Int) (M1 : Mm) (h0 : 0 ≤ i) (h1 : i ≤ 4) (ok1 : okT M1 t) (fr1 : Fr (inT t) M M1) (gl1 : M1 t 5 = M t 5), (4 - i).toNat = kk → G X 1 RX7 cX7_share 7 none (Qv (fun M1 => okT M1 t ∧ Fr (inT t) M M1 ∧ M1 t 5 = M t 5)) 45 [(4, vi i), (0, vr X t), (1, vi g), (2, vi k), (3, vi w)] [] M1 := by
  intro kk
  induction kk using Nat.strongRecOn with
  | ind kk ih =>
    intro i M1 h0 h1 ok1 fr1 gl1 hmes
    have ho5 := ho.2.1
    have ho4 := ho.1
    refine g_iload (pc' := 47) 0 dX7_share_45 rfl rfl ?_
    refine g_iconst (pc' := 48) dX7_share_47 rfl ?_
    refine g_ic_ge (pc' := 51) (tgt := 113) ⟨by omega, by omega⟩ (by decide) dX7_share_48 rfl rfl (fun c1 => ?_) (fun c1 => ?_)
    · refine g_vreturn dX7_share_113 ?_
      exact ⟨ok1, fr1, gl1⟩
    · refine g_aload_n (pc' := 52) 1 dX7_share_51 rfl rfl ?_
      refine g_getD (pc' := 55) dX7_share_52 rfl f_X7_18 ht.o rfl ?_
      refine g_iload_n (pc' := 56) 2 dX7_share_55 rfl rfl ?_
      refine g_iconst (pc' := 57) dX7_share_56 rfl ?_
      refine g_imul (pc' := 58) dX7_share_57 rfl ?_
      refine g_iload (pc' := 60) 0 dX7_share_58 rfl rfl ?_
      refine g_iadd (pc' := 61) dX7_share_60 rfl ?_
      refine g_lald (pc' := 62) dX7_share_61 rfl (ok1.p ht) (by omega) (by omega) (fun v2 ev2 rv2 => ?_)
      refine g_iload_n (pc' := 63) 4 dX7_share_62 rfl rfl ?_
      refine g_i2l (pc' := 64) hw dX7_share_63 rfl ?_
      refine g_lmul (pc' := 65) dX7_share_64 rfl ?_
      refine g_nrmL (fun n3 rn3 en3 => ?_)
      refine g_lstore (pc' := 67) (L' := [(5, vl n3), (4, vi i), (0, vr X t), (1, vi g), (2, vi k), (3, vi w)]) dX7_share_65 rfl (by decide) rfl ?_
      refine g_aload_n (pc' := 68) 2 dX7_share_67 rfl rfl ?_
      refine g_getD (pc' := 71) dX7_share_68 rfl f_X7_22 ht.o rfl ?_
      refine g_iload_n (pc' := 72) 3 dX7_share_71 rfl rfl ?_
      refine g_iconst (pc' := 73) dX7_share_72 rfl ?_
      refine g_imul (pc' := 74) dX7_share_73 rfl ?_
      refine g_iload (pc' := 76) 1 dX7_share_74 rfl rfl ?_
      refine g_iadd (pc' := 77) dX7_share_76 rfl ?_
      refine g_dup2_11 (pc' := 78) dX7_share_77 rfl rfl rfl ?_
      refine g_lald (pc' := 79) dX7_share_78 rfl (ok1.q ht) (by omega) (by omega) (fun v4 ev4 rv4 => ?_)
      refine g_lload (pc' := 81) 0 dX7_share_79 rfl rfl ?_
      refine g_lsub (pc' := 82) dX7_share_81 rfl ?_
      refine g_nrmL (fun n5 rn5 en5 => ?_)
      refine g_last (pc' := 83) dX7_share_82 rfl (ok1.q ht) (by omega) (by omega) rn5 (fun M6 hM6 => ?_)
      have kM6 : okT M6 t := okT.wr ok1 hM6 ok1.qin.2
      have fM6 : Fr (inT t) M M6 := Fr.wr fr1 hM6 ok1.qin.1
      have gM6 : M6 t 5 = M t 5 := (mu5 _ _ hM6 (fun z => absurd z.symm ok1.qin.2)).trans gl1
      refine g_aload_n (pc' := 84) 2 dX7_share_83 rfl rfl ?_
      refine g_iload_n (pc' := 85) 4 dX7_share_84 rfl rfl ?_
      refine g_callVip (pc' := 88) (As := [vi k]) (b := t) (S := []) dX7_share_85 rfl m_X7_33 w_X7_has (c_X7_has X M6 t ht kM6 k hk) rfl ⟨_, _, _, ht.o, rfl, rfl⟩ (by decide) (by decide) rfl (Nat.le_of_ble_eq_true rfl) (fun z8 q7 => ?_)
      refine g_if_eq (pc' := 91) (tgt := 107) ⟨by omega, by omega⟩ dX7_share_88 rfl rfl (fun c9 => ?_) (fun c9 => ?_)
      · replace q7 := q7.resolve_left (fun h => absurd (c9.symm.trans h.1) (by decide))
        refine g_iinc (pc' := 110) (L' := [(4, vi (i + 1)), (5, vl n3), (0, vr X t), (1, vi g), (2, vi k), (3, vi w)]) 1 dX7_share_107 rfl rfl (by decide) rfl ?_
        refine g_goto (tgt := 45) dX7_share_110 rfl ?_
        refine g_sub [0, 2, 3, 4, 5] rfl ?_
        exact ih _ (by omega) (i + 1) M6 (by omega) (by omega) kM6 fM6 gM6 rfl
      · replace q7 := q7.resolve_right (fun h => c9 h.1)
        refine g_aload_n (pc' := 92) 2 dX7_share_91 rfl rfl ?_
        refine g_getD (pc' := 95) dX7_share_92 rfl f_X7_22 ht.o rfl ?_
        refine g_iload_n (pc' := 96) 4 dX7_share_95 rfl rfl ?_
        refine g_iconst (pc' := 97) dX7_share_96 rfl ?_
        refine g_imul (pc' := 98) dX7_share_97 rfl ?_
        refine g_iload (pc' := 100) 1 dX7_share_98 rfl rfl ?_
        refine g_iadd (pc' := 101) dX7_share_100 rfl ?_
        refine g_dup2_11 (pc' := 102) dX7_share_101 rfl rfl rfl ?_
        refine g_lald (pc' := 103) dX7_share_102 rfl (kM6.q ht) (by omega) (by omega) (fun v10 ev10 rv10 => ?_)
        refine g_lload (pc' := 105) 0 dX7_share_103 rfl rfl ?_
        refine g_ladd (pc' := 106) dX7_share_105 rfl ?_
        refine g_nrmL (fun n11 rn11 en11 => ?_)
        refine g_last (pc' := 107) dX7_share_106 rfl (kM6.q ht) (by omega) (by omega) rn11 (fun M12 hM12 => ?_)
        have kM12 : okT M12 t := okT.wr kM6 hM12 kM6.qin.2
        have fM12 : Fr (inT t) M M12 := Fr.wr fM6 hM12 kM6.qin.1
        have gM12 : M12 t 5 = M t 5 := (mu5 _ _ hM12 (fun z => absurd z.symm kM6.qin.2)).trans gM6
        refine g_iinc (pc' := 110) (L' := [(4, vi (i + 1)), (5, vl n3), (0, vr X t), (1, vi g), (2, vi k), (3, vi w)]) 1 dX7_share_107 rfl rfl (by decide) rfl ?_
        refine g_goto (tgt := 45) dX7_share_110 rfl ?_
        refine g_sub [0, 2, 3, 4, 5] rfl ?_
        exact ih _ (by omega) (i + 1) M12 (by omega) (by omega) kM12 fM12 gM12 rfl
set_option maxHeartbeats 4000000 in
set_option maxRecDepth 100000 in
theorem l_X7_share_3 (X : Cx) (M : Mm) (t : Nat) (ht : isT t) (ho : okT M t) (g : Int) (hg : inI g) (k : Int) (hk : inI k) (w : Int) (hw : inI w) (pg : 0 ≤ g ∧ g < M t 5) : ∀ (kk : Nat) (i : Int) (M1 : Mm) (h0 : 0 ≤ i) (h1 : i ≤ 24) (ok1 : okT M1 t) (fr1 : Fr (inT t) M M1) (gl1 : M1 t 5 = M t 5), (24 - i).toNat = kk → G X 1 RX7 cX7_share 7 none (Qv (fun M1 => okT M1 t ∧ Fr (inT t) M M1 ∧ M1 t 5 = M t 5)) 3 [(4, vi i), (0, vr X t), (1, vi g), (2, vi k), (3, vi w)] [] M1 := by
  intro kk
  induction kk using Nat.strongRecOn with
  | ind kk ih =>
    intro i M1 h0 h1 ok1 fr1 gl1 hmes
    have ho5 := ho.2.1
    have ho4 := ho.1
    have oa := ok1.1
    have ob := ok1.2.1
    refine g_iload (pc' := 5) 0 dX7_share_3 rfl rfl ?_
    refine g_aload_n (pc' := 6) 1 dX7_share_5 rfl rfl ?_
    refine g_getI (pc' := 9) dX7_share_6 rfl f_X7_29 ht.o rfl (fun v1 ev1 rv1 => ?_)
    refine g_iconst (pc' := 10) dX7_share_9 rfl ?_
    refine g_imul (pc' := 11) dX7_share_10 rfl ?_
    refine g_ic_ge (pc' := 14) (tgt := 42) ⟨by omega, by omega⟩ ⟨by omega, by omega⟩ dX7_share_11 rfl rfl (fun c2 => ?_) (fun c2 => ?_)
    · refine g_iconst (pc' := 43) dX7_share_42 rfl ?_
      refine g_istore (pc' := 45) (L' := [(4, vi 0), (0, vr X t), (1, vi g), (2, vi k), (3, vi w)]) dX7_share_43 rfl (by decide) rfl ?_
      refine g_sub [0, 1, 2, 3, 4] rfl ?_
      exact l_X7_share_45 X M t ht ho g hg k hk w hw pg _ 0 M1 (by omega) (by omega) ok1 fr1 gl1 rfl
    · refine g_aload_n (pc' := 15) 1 dX7_share_14 rfl rfl ?_
      refine g_getD (pc' := 18) dX7_share_15 rfl f_X7_22 ht.o rfl ?_
      refine g_iload (pc' := 20) 0 dX7_share_18 rfl rfl ?_
      refine g_aload_n (pc' := 21) 1 dX7_share_20 rfl rfl ?_
      refine g_getD (pc' := 24) dX7_share_21 rfl f_X7_18 ht.o rfl ?_
      refine g_iload (pc' := 26) 0 dX7_share_24 rfl rfl ?_
      refine g_lald (pc' := 27) dX7_share_26 rfl (ok1.p ht) (by omega) (by omega) (fun v3 ev3 rv3 => ?_)
      refine g_aload_n (pc' := 28) 1 dX7_share_27 rfl rfl ?_
      refine g_getR (pc' := 31) dX7_share_28 rfl f_X7_15 ht.o rfl ?_
      refine g_iload_n (pc' := 32) 2 dX7_share_31 rfl rfl ?_
      refine g_iald (pc' := 33) dX7_share_32 rfl ht.f (by omega) (by omega) (fun v4 ev4 rv4 => ?_)
      refine g_i2l (pc' := 34) rv4 dX7_share_33 rfl ?_
      refine g_lmul (pc' := 35) dX7_share_34 rfl ?_
      refine g_nrmL (fun n5 rn5 en5 => ?_)
      refine g_last (pc' := 36) dX7_share_35 rfl (ok1.q ht) (by omega) (by omega) rn5 (fun M6 hM6 => ?_)
      have kM6 : okT M6 t := okT.wr ok1 hM6 ok1.qin.2
      have fM6 : Fr (inT t) M M6 := Fr.wr fr1 hM6 ok1.qin.1
      have gM6 : M6 t 5 = M t 5 := (mu5 _ _ hM6 (fun z => absurd z.symm ok1.qin.2)).trans gl1
      refine g_iinc (pc' := 39) (L' := [(4, vi (i + 1)), (0, vr X t), (1, vi g), (2, vi k), (3, vi w)]) 0 dX7_share_36 rfl rfl (by decide) rfl ?_
      refine g_goto (tgt := 3) dX7_share_39 rfl ?_
      refine g_sub [0, 1, 2, 3, 4] rfl ?_
      exact ih _ (by omega) (i + 1) M6 (by omega) (by omega) kM6 fM6 gM6 rfl
set_option maxHeartbeats 4000000 in
set_option maxRecDepth 100000 in
theorem c_X7_share (X : Cx) (M : Mm) (t : Nat) (ht : isT t) (ho : okT M t) (g : Int) (hg : inI g) (k : Int) (hk : inI k) (w : Int) (hw : inI w) (pg : 0 ≤ g ∧ g < M t 5) : Con X 1 yX7_share cX7_share 7 none [vr X t, vi g, vi k, vi w] M (Qv (fun M1 => okT M1 t ∧ Fr (inT t) M M1 ∧ M1 t 5 = M t 5)) := by
  refine Con.ofG rfl (Nat.le_of_ble_eq_true rfl) ?_
  show G X 1 RX7 cX7_share 7 none (Qv (fun M1 => okT M1 t ∧ Fr (inT t) M M1 ∧ M1 t 5 = M t 5)) 0 [(0, vr X t), (1, vi g), (2, vi k), (3, vi w)] [] M
  have ho5 := ho.2.1
  have ho4 := ho.1
  refine g_iconst (pc' := 1) dX7_share_0 rfl ?_
  refine g_istore (pc' := 3) (L' := [(4, vi 0), (0, vr X t), (1, vi g), (2, vi k), (3, vi w)]) dX7_share_1 rfl (by decide) rfl ?_
  refine g_sub [0, 1, 2, 3, 4] rfl ?_
  exact l_X7_share_3 X M t ht ho g hg k hk w hw pg _ 0 M (by omega) (by omega) ho Fr.rf rfl rfl
set_option maxHeartbeats 4000000 in
set_option maxRecDepth 100000 in
theorem j_X7_settle_22 (X : Cx) (M : Mm) (t : Nat) (ht : isT t) (ho : okT M t) (x : Int) (hx : inL x) (u : Int) (hu : inL u) : G X 2 RX7 cX7_settle 6 (some .boolean) (Qi (fun r M1 => okT M1 t ∧ Fr (inT t) M M1 ∧ M1 t 5 = M t 5 ∧ (r = 0 ∨ r = 1))) 22 [(3, vl u), (0, vr X t), (1, vl x)] [] M := by
  have ho5 := ho.2.1
  have ho4 := ho.1
  refine g_lload_n (pc' := 23) 0 dX7_settle_22 rfl rfl ?_
  refine g_lconst (pc' := 24) (v := 0) dX7_settle_23 rfl (by decide) ?_
  refine g_lc_le (pc' := 28) (tgt := 38) ⟨by omega, by omega⟩ (by decide) dX7_settle_24 dX7_settle_25 rfl rfl (fun c1 => ?_) (fun c1 => ?_)
  · refine g_iconst (pc' := 39) dX7_settle_38 rfl ?_
    refine g_zreturn dX7_settle_39 (by omega) ?_
    exact ⟨ho, Fr.rf, rfl, by omega⟩
  · refine g_lload_n (pc' := 29) 2 dX7_settle_28 rfl rfl ?_
    refine g_lload_n (pc' := 30) 0 dX7_settle_29 rfl rfl ?_
    refine g_ldiv (pc' := 31) hx ⟨by omega, by omega⟩ (by omega) dX7_settle_30 rfl ?_
    refine g_nrmL (fun n2 rn2 en2 => ?_)
    refine g_ldc2 (pc' := 34) (v := 100000000000000) dX7_settle_31 rfl k_X7_78 ?_
    refine g_lc_le (pc' := 38) (tgt := 40) rn2 (by decide) dX7_settle_34 dX7_settle_35 rfl rfl (fun c3 => ?_) (fun c3 => ?_)
    · refine g_aload_n (pc' := 41) 1 dX7_settle_40 rfl rfl ?_
      refine g_aload_n (pc' := 42) 1 dX7_settle_41 rfl rfl ?_
      refine g_getD (pc' := 45) dX7_settle_42 rfl f_X7_22 ht.o rfl ?_
      refine g_lload_n (pc' := 46) 0 dX7_settle_45 rfl rfl ?_
      refine g_callVv (pc' := 49) (As := [vr X ((M t 3).toNat), vl u]) (b := t) (S := []) dX7_settle_46 rfl m_X7_84 w_X7_divideBy (c_X7_divideBy X M t ht ho ((M t 3).toNat) ho.qab u ⟨by omega, by omega⟩) rfl ⟨_, _, _, ht.o, rfl, rfl⟩ (by decide) (by decide) rfl (Nat.le_of_ble_eq_true rfl) (fun M5 q4 => ?_)
      obtain ⟨kM5, fM50, gM50⟩ := q4
      have fM5 : Fr (inT t) M M5 := Fr.tr Fr.rf fM50 (fun _ z => z)
      have gM5 := gM50.trans rfl
      refine g_aload_n (pc' := 50) 1 dX7_settle_49 rfl rfl ?_
      refine g_lload_n (pc' := 51) 2 dX7_settle_50 rfl rfl ?_
      refine g_lload_n (pc' := 52) 0 dX7_settle_51 rfl rfl ?_
      refine g_ldiv (pc' := 53) hx ⟨by omega, by omega⟩ (by omega) dX7_settle_52 rfl ?_
      refine g_nrmL (fun n6 rn6 en6 => ?_)
      refine g_putL (pc' := 56) dX7_settle_53 rfl p_X7_25 ht.o rfl rn6 (fun M7 hM7 => ?_)
      have kM7 : okT M7 t := kM5.w4 hM7
      have fM7 : Fr (inT t) M M7 := Fr.wr fM5 hM7 ⟨by omega, by omega⟩
      have gM7 : M7 t 5 = M t 5 := (mu5 _ _ hM7 (fun _ => by decide)).trans gM5
      refine g_aload_n (pc' := 57) 1 dX7_settle_56 rfl rfl ?_
      refine g_getD (pc' := 60) dX7_settle_57 rfl f_X7_18 ht.o rfl ?_
      refine g_astore (pc' := 62) (L' := [(5, vr X ((M7 t 2).toNat)), (3, vl u), (0, vr X t), (1, vl x)]) dX7_settle_60 rfl (by decide) rfl ?_
      refine g_aload_n (pc' := 63) 2 dX7_settle_62 rfl rfl ?_
      refine g_aload_n (pc' := 64) 2 dX7_settle_63 rfl rfl ?_
      refine g_getD (pc' := 67) dX7_settle_64 rfl f_X7_22 ht.o rfl ?_
      refine g_putD (.array .long) (pc' := 70) dX7_settle_67 rfl p_X7_18 ht.o rfl rfl rfl (fun M8 hM8 => ?_)
      have fM8 : Fr (inT t) M M8 := Fr.wr fM7 hM8 ⟨by omega, by omega⟩
      have gM8 : M8 t 5 = M t 5 := (mu5 _ _ hM8 (fun _ => by decide)).trans gM7
      refine g_aload_n (pc' := 71) 2 dX7_settle_70 rfl rfl ?_
      refine g_aload (pc' := 73) 0 dX7_settle_71 rfl rfl ?_
      refine g_putD (.array .long) (pc' := 76) dX7_settle_73 rfl p_X7_22 ht.o rfl rfl rfl (fun M9 hM9 => ?_)
      have fM9 : Fr (inT t) M M9 := Fr.wr fM8 hM9 ⟨by omega, by omega⟩
      have gM9 : M9 t 5 = M t 5 := (mu5 _ _ hM9 (fun _ => by decide)).trans gM8
      have kM9 : okT M9 t := okT.sw kM7 hM8 hM9
      refine g_iconst (pc' := 77) dX7_settle_76 rfl ?_
      refine g_zreturn dX7_settle_77 (by omega) ?_
      exact ⟨kM9, fM9, gM9, by omega⟩
    · refine g_iconst (pc' := 39) dX7_settle_38 rfl ?_
      refine g_zreturn dX7_settle_39 (by omega) ?_
      exact ⟨ho, Fr.rf, rfl, by omega⟩
set_option maxHeartbeats 4000000 in
set_option maxRecDepth 100000 in
theorem c_X7_settle (X : Cx) (M : Mm) (t : Nat) (ht : isT t) (ho : okT M t) (x : Int) (hx : inL x) : Con X 2 yX7_settle cX7_settle 6 (some .boolean) [vr X t, vl x] M (Qi (fun r M1 => okT M1 t ∧ Fr (inT t) M M1 ∧ M1 t 5 = M t 5 ∧ (r = 0 ∨ r = 1))) := by
  refine Con.ofG rfl (Nat.le_of_ble_eq_true rfl) ?_
  show G X 2 RX7 cX7_settle 6 (some .boolean) (Qi (fun r M1 => okT M1 t ∧ Fr (inT t) M M1 ∧ M1 t 5 = M t 5 ∧ (r = 0 ∨ r = 1))) 0 [(0, vr X t), (1, vl x)] [] M
  have ho5 := ho.2.1
  have ho4 := ho.1
  refine g_lload_n (pc' := 1) 1 dX7_settle_0 rfl rfl ?_
  refine g_ldc2 (pc' := 4) (v := 100000000000000) dX7_settle_1 rfl k_X7_78 ?_
  refine g_lc_le (pc' := 8) (tgt := 20) hx (by decide) dX7_settle_4 dX7_settle_5 rfl rfl (fun c1 => ?_) (fun c1 => ?_)
  · refine g_lconst (pc' := 21) (v := 1) dX7_settle_20 rfl (by decide) ?_
    refine g_lstore_n (pc' := 22) (i := 3) (L' := [(3, vl 1), (0, vr X t), (1, vl x)]) dX7_settle_21 rfl rfl (by decide) rfl ?_
    refine g_sub [0, 1, 2] rfl ?_
    exact j_X7_settle_22 X M t ht ho x hx 1 (by first | assumption | decide)
  · refine g_aload_n (pc' := 9) 0 dX7_settle_8 rfl rfl ?_
    refine g_aload_n (pc' := 10) 0 dX7_settle_9 rfl rfl ?_
    refine g_getD (pc' := 13) dX7_settle_10 rfl f_X7_22 ht.o rfl ?_
    refine g_lload_n (pc' := 14) 1 dX7_settle_13 rfl rfl ?_
    refine g_callVlp (pc' := 17) (As := [vr X ((M t 3).toNat), vl x]) (b := t) (S := []) dX7_settle_14 rfl m_X7_80 w_X7_divisorOf (c_X7_divisorOf X M t ht ho ((M t 3).toNat) ho.qab x hx) rfl ⟨_, _, _, ht.o, rfl, rfl⟩ (by decide) (by decide) rfl (Nat.le_of_ble_eq_true rfl) (fun z3 q2 => ?_)
    refine g_goto (tgt := 21) dX7_settle_17 rfl ?_
    refine g_lstore_n (pc' := 22) (i := 3) (L' := [(3, vl z3), (0, vr X t), (1, vl x)]) dX7_settle_21 rfl rfl (by decide) rfl ?_
    refine g_sub [0, 1, 2] rfl ?_
    exact j_X7_settle_22 X M t ht ho x hx z3 (by first | assumption | decide)
set_option maxHeartbeats 4000000 in
set_option maxRecDepth 100000 in
theorem c_X7_carry (X : Cx) (M : Mm) (t : Nat) (ht : isT t) (ho : okT M t) (g : Int) (hg : inI g) (k : Int) (hk : inI k) (w : Int) (hw : inI w) : Con X 3 yX7_carry cX7_carry 4 (some .int) [vr X t, vi g, vi k, vi w] M (Qi (fun r M1 => okT M1 t ∧ Fr (inT t) M M1 ∧ M1 t 5 = M t 5 ∧ (r = 0 ∨ r = -3 ∨ r = -5))) := by
  refine Con.ofG rfl (Nat.le_of_ble_eq_true rfl) ?_
  show G X 3 RX7 cX7_carry 4 (some .int) (Qi (fun r M1 => okT M1 t ∧ Fr (inT t) M M1 ∧ M1 t 5 = M t 5 ∧ (r = 0 ∨ r = -3 ∨ r = -5))) 0 [(0, vr X t), (1, vi g), (2, vi k), (3, vi w)] [] M
  have ho5 := ho.2.1
  have ho4 := ho.1
  refine g_aload_n (pc' := 1) 0 dX7_carry_0 rfl rfl ?_
  refine g_iload_n (pc' := 2) 1 dX7_carry_1 rfl rfl ?_
  refine g_iload_n (pc' := 3) 2 dX7_carry_2 rfl rfl ?_
  refine g_iload_n (pc' := 4) 3 dX7_carry_3 rfl rfl ?_
  refine g_callVip (pc' := 7) (As := [vi g, vi k, vi w]) (b := t) (S := []) dX7_carry_4 rfl m_X7_66 w_X7_canCarry (c_X7_canCarry X M t ht ho g hg k hk w hw) rfl ⟨_, _, _, ht.o, rfl, rfl⟩ (by decide) (by decide) rfl (Nat.le_of_ble_eq_true rfl) (fun z2 q1 => ?_)
  refine g_if_ne (pc' := 10) (tgt := 13) ⟨by omega, by omega⟩ dX7_carry_7 rfl rfl (fun c3 => ?_) (fun c3 => ?_)
  · refine g_aload_n (pc' := 14) 0 dX7_carry_13 rfl rfl ?_
    refine g_iload_n (pc' := 15) 1 dX7_carry_14 rfl rfl ?_
    refine g_iload_n (pc' := 16) 2 dX7_carry_15 rfl rfl ?_
    refine g_iload_n (pc' := 17) 3 dX7_carry_16 rfl rfl ?_
    refine g_callVv (pc' := 20) (As := [vi g, vi k, vi w]) (b := t) (S := []) dX7_carry_17 rfl m_X7_70 w_X7_share (c_X7_share X M t ht ho g hg k hk w hw ⟨by omega, by omega⟩) rfl ⟨_, _, _, ht.o, rfl, rfl⟩ (by decide) (by decide) rfl (Nat.le_of_ble_eq_true rfl) (fun M5 q4 => ?_)
    obtain ⟨kM5, fM50, gM50⟩ := q4
    have fM5 : Fr (inT t) M M5 := Fr.tr Fr.rf fM50 (fun _ z => z)
    have gM5 := gM50.trans rfl
    refine g_aload_n (pc' := 21) 0 dX7_carry_20 rfl rfl ?_
    refine g_aload_n (pc' := 22) 0 dX7_carry_21 rfl rfl ?_
    refine g_getL (pc' := 25) dX7_carry_22 rfl f_X7_25 ht.o rfl (fun v6 ev6 rv6 => ?_)
    refine g_aload_n (pc' := 26) 0 dX7_carry_25 rfl rfl ?_
    refine g_getR (pc' := 29) dX7_carry_26 rfl f_X7_15 ht.o rfl ?_
    refine g_iload_n (pc' := 30) 1 dX7_carry_29 rfl rfl ?_
    refine g_iald (pc' := 31) dX7_carry_30 rfl ht.f (by omega) (by omega) (fun v7 ev7 rv7 => ?_)
    refine g_i2l (pc' := 32) rv7 dX7_carry_31 rfl ?_
    refine g_lmul (pc' := 33) dX7_carry_32 rfl ?_
    refine g_nrmL (fun n8 rn8 en8 => ?_)
    refine g_callVi (pc' := 36) (As := [vl n8]) (b := t) (S := []) dX7_carry_33 rfl m_X7_74 w_X7_settle (c_X7_settle X M5 t ht kM5 n8 rn8) rfl ⟨_, _, _, ht.o, rfl, rfl⟩ (by decide) (by decide) rfl (Nat.le_of_ble_eq_true rfl) (fun z10 M11 q9 => ?_)
    obtain ⟨kM11, fM110, gM110, pM11⟩ := q9
    have fM11 : Fr (inT t) M M11 := Fr.tr fM5 fM110 (fun _ z => z)
    have gM11 := gM110.trans gM5
    refine g_if_ne (pc' := 39) (tgt := 42) ⟨by omega, by omega⟩ dX7_carry_36 rfl rfl (fun c12 => ?_) (fun c12 => ?_)
    · refine g_aload_n (pc' := 43) 0 dX7_carry_42 rfl rfl ?_
      refine g_getR (pc' := 46) dX7_carry_43 rfl f_X7_15 ht.o rfl ?_
      refine g_iload_n (pc' := 47) 1 dX7_carry_46 rfl rfl ?_
      refine g_dup2_11 (pc' := 48) dX7_carry_47 rfl rfl rfl ?_
      refine g_iald (pc' := 49) dX7_carry_48 rfl ht.f (by omega) (by omega) (fun v13 ev13 rv13 => ?_)
      refine g_iload_n (pc' := 50) 3 dX7_carry_49 rfl rfl ?_
      refine g_isub (pc' := 51) dX7_carry_50 rfl ?_
      refine g_nrmI (fun n14 rn14 en14 => ?_)
      have bn14 : (-2147483648 ≤ v13 - w ∧ v13 - w ≤ 2147483647) → n14 = v13 - w := fun h => en14.trans (bm32 h)
      refine g_iast (pc' := 52) dX7_carry_51 rfl ht.f (by omega) (by omega) rn14 (fun M15 hM15 => ?_)
      have kM15 : okT M15 t := okT.wr kM11 hM15 (by omega)
      have fM15 : Fr (inT t) M M15 := Fr.wr fM11 hM15 ⟨by omega, by omega⟩
      have gM15 : M15 t 5 = M t 5 := (mu5 _ _ hM15 (fun z => by omega)).trans gM11
      refine g_aload_n (pc' := 53) 0 dX7_carry_52 rfl rfl ?_
      refine g_getR (pc' := 56) dX7_carry_53 rfl f_X7_15 ht.o rfl ?_
      refine g_iload_n (pc' := 57) 2 dX7_carry_56 rfl rfl ?_
      refine g_dup2_11 (pc' := 58) dX7_carry_57 rfl rfl rfl ?_
      refine g_iald (pc' := 59) dX7_carry_58 rfl ht.f (by omega) (by omega) (fun v16 ev16 rv16 => ?_)
      refine g_iload_n (pc' := 60) 3 dX7_carry_59 rfl rfl ?_
      refine g_iadd (pc' := 61) dX7_carry_60 rfl ?_
      refine g_nrmI (fun n17 rn17 en17 => ?_)
      have bn17 : (-2147483648 ≤ v16 + w ∧ v16 + w ≤ 2147483647) → n17 = v16 + w := fun h => en17.trans (bm32 h)
      refine g_iast (pc' := 62) dX7_carry_61 rfl ht.f (by omega) (by omega) rn17 (fun M18 hM18 => ?_)
      have kM18 : okT M18 t := okT.wr kM15 hM18 (by omega)
      have fM18 : Fr (inT t) M M18 := Fr.wr fM15 hM18 ⟨by omega, by omega⟩
      have gM18 : M18 t 5 = M t 5 := (mu5 _ _ hM18 (fun z => by omega)).trans gM15
      refine g_iconst (pc' := 63) dX7_carry_62 rfl ?_
      refine g_ireturn dX7_carry_63 ?_
      exact ⟨kM18, fM18, gM18, by omega⟩
    · refine g_bipush (pc' := 41) (v := (-5)) dX7_carry_39 rfl (by decide) ?_
      refine g_ireturn dX7_carry_41 ?_
      exact ⟨kM11, fM11, gM11, by omega⟩
  · refine g_bipush (pc' := 12) (v := (-3)) dX7_carry_10 rfl (by decide) ?_
    refine g_ireturn dX7_carry_12 ?_
    exact ⟨ho, Fr.rf, rfl, by omega⟩
set_option maxHeartbeats 4000000 in
set_option maxRecDepth 100000 in
theorem c_X7_copyFrom (X : Cx) (M : Mm) (t : Nat) (ht : isT t) (ho : okT M t) (u : Nat) (hu : isT u) (hou : okT M u) (hne : u ≠ t) (hap : ¬ inT t u) : Con X 1 yX7_copyFrom cX7_copyFrom 2 none [vr X t, vr X u] M (Qv (fun M1 => okT M1 t ∧ Fr (inT t) M M1 ∧ M1 t 5 = M u 5)) := by
  refine Con.ofG rfl (Nat.le_of_ble_eq_true rfl) ?_
  show G X 1 RX7 cX7_copyFrom 2 none (Qv (fun M1 => okT M1 t ∧ Fr (inT t) M M1 ∧ M1 t 5 = M u 5)) 0 [(0, vr X t), (1, vr X u)] [] M
  have ho5 := ho.2.1
  have ho4 := ho.1
  have hv5 := hou.2.1
  have hv4 := hou.1
  refine g_aload_n (pc' := 1) 1 dX7_copyFrom_0 rfl rfl ?_
  refine g_getR (pc' := 4) dX7_copyFrom_1 rfl f_X7_9 hu.o rfl ?_
  refine g_iconst (pc' := 5) dX7_copyFrom_4 rfl ?_
  refine g_aload_n (pc' := 6) 0 dX7_copyFrom_5 rfl rfl ?_
  refine g_getR (pc' := 9) dX7_copyFrom_6 rfl f_X7_9 ht.o rfl ?_
  refine g_iconst (pc' := 10) dX7_copyFrom_9 rfl ?_
  refine g_bipush (pc' := 12) (v := 6) dX7_copyFrom_10 rfl (by decide) ?_
  refine g_copyI (pc' := 15) (sp := 0) (dp := 0) (n := 6) dX7_copyFrom_12 rfl m_X7_92 mn_copy ms_copy mi_Sys hu.s ht.s (by decide) (by decide) (by decide) (Nat.le_of_ble_eq_true rfl) (fun M1 hM1 => ?_)
  have kM1 : okT M1 t := okT.cp ho hM1 (by omega)
  have fM1 : Fr (inT t) M M1 := Fr.cp Fr.rf hM1 ⟨by omega, by omega⟩
  have gM1 : M1 t 5 = M t 5 := (cp5 _ hM1 (by omega)).trans rfl
  have uM1 : M1 u = M u := fM1 u hap
  have oM1 : okT M1 u := hou.cg uM1
  refine g_aload_n (pc' := 16) 1 dX7_copyFrom_15 rfl rfl ?_
  refine g_getR (pc' := 19) dX7_copyFrom_16 rfl f_X7_15 hu.o rfl ?_
  refine g_iconst (pc' := 20) dX7_copyFrom_19 rfl ?_
  refine g_aload_n (pc' := 21) 0 dX7_copyFrom_20 rfl rfl ?_
  refine g_getR (pc' := 24) dX7_copyFrom_21 rfl f_X7_15 ht.o rfl ?_
  refine g_iconst (pc' := 25) dX7_copyFrom_24 rfl ?_
  refine g_bipush (pc' := 27) (v := 6) dX7_copyFrom_25 rfl (by decide) ?_
  refine g_copyI (pc' := 30) (sp := 0) (dp := 0) (n := 6) dX7_copyFrom_27 rfl m_X7_92 mn_copy ms_copy mi_Sys hu.f ht.f (by decide) (by decide) (by decide) (Nat.le_of_ble_eq_true rfl) (fun M2 hM2 => ?_)
  have kM2 : okT M2 t := okT.cp kM1 hM2 (by omega)
  have fM2 : Fr (inT t) M M2 := Fr.cp fM1 hM2 ⟨by omega, by omega⟩
  have gM2 : M2 t 5 = M t 5 := (cp5 _ hM2 (by omega)).trans gM1
  have uM2 : M2 u = M u := fM2 u hap
  have oM2 : okT M2 u := hou.cg uM2
  refine g_aload_n (pc' := 31) 1 dX7_copyFrom_30 rfl rfl ?_
  refine g_getD (pc' := 34) dX7_copyFrom_31 rfl f_X7_18 hu.o rfl ?_
  refine g_iconst (pc' := 35) dX7_copyFrom_34 rfl ?_
  refine g_aload_n (pc' := 36) 0 dX7_copyFrom_35 rfl rfl ?_
  refine g_getD (pc' := 39) dX7_copyFrom_36 rfl f_X7_18 ht.o rfl ?_
  refine g_iconst (pc' := 40) dX7_copyFrom_39 rfl ?_
  refine g_bipush (pc' := 42) (v := 24) dX7_copyFrom_40 rfl (by decide) ?_
  refine g_copyL (pc' := 45) (sp := 0) (dp := 0) (n := 24) dX7_copyFrom_42 rfl m_X7_92 mn_copy ms_copy mi_Sys (oM2.p hu) (kM2.p ht) (by decide) (by decide) (by decide) (Nat.le_of_ble_eq_true rfl) (fun M3 hM3 => ?_)
  have kM3 : okT M3 t := okT.cp kM2 hM3 kM2.pin.2
  have fM3 : Fr (inT t) M M3 := Fr.cp fM2 hM3 kM2.pin.1
  have gM3 : M3 t 5 = M t 5 := (cp5 _ hM3 (Ne.symm kM2.pin.2)).trans gM2
  have uM3 : M3 u = M u := fM3 u hap
  have oM3 : okT M3 u := hou.cg uM3
  refine g_aload_n (pc' := 46) 0 dX7_copyFrom_45 rfl rfl ?_
  refine g_aload_n (pc' := 47) 1 dX7_copyFrom_46 rfl rfl ?_
  refine g_getL (pc' := 50) dX7_copyFrom_47 rfl f_X7_25 hu.o rfl (fun v4 ev4 rv4 => ?_)
  rw [uM3] at ev4
  refine g_putL (pc' := 53) dX7_copyFrom_50 rfl p_X7_25 ht.o rfl rv4 (fun M5 hM5 => ?_)
  have kM5 : okT M5 t := kM3.w4 hM5
  have fM5 : Fr (inT t) M M5 := Fr.wr fM3 hM5 ⟨by omega, by omega⟩
  have gM5 : M5 t 5 = M t 5 := (mu5 _ _ hM5 (fun _ => by decide)).trans gM3
  have uM5 : M5 u = M u := fM5 u hap
  have oM5 : okT M5 u := hou.cg uM5
  refine g_aload_n (pc' := 54) 0 dX7_copyFrom_53 rfl rfl ?_
  refine g_aload_n (pc' := 55) 1 dX7_copyFrom_54 rfl rfl ?_
  refine g_getI (pc' := 58) dX7_copyFrom_55 rfl f_X7_29 hu.o rfl (fun v6 ev6 rv6 => ?_)
  rw [uM5] at ev6
  refine g_putI (pc' := 61) dX7_copyFrom_58 rfl p_X7_29 ht.o rfl rv6 (fun M7 hM7 => ?_)
  have kM7 : okT M7 t := kM5.w5 hM7 (by omega) (by omega)
  have fM7 : Fr (inT t) M M7 := Fr.wr fM5 hM7 ⟨by omega, by omega⟩
  have gM7 : M7 t 5 = v6 := by rw [hM7]; exact mu_at _ _ _ _
  have uM7 : M7 u = M u := fM7 u hap
  have oM7 : okT M7 u := hou.cg uM7
  refine g_vreturn dX7_copyFrom_61 ?_
  exact ⟨kM7, fM7, by omega⟩
