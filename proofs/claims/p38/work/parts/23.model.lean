set_option maxHeartbeats 4000000 in
set_option maxRecDepth 100000 in
theorem c_X10_in (X : Cx) (M : Mm) (a : Int) (ha : inL a) (b : Int) (hb : inL b) (c : Int) (hc : inL c) : Con X 0 yX10_in cX10_in 6 (some .boolean) [vl a, vl b, vl c] M (Qi (fun r M1 => M1 = M ∧ ((r = 1 ∧ b ≤ a ∧ a ≤ c) ∨ (r = 0 ∧ (a < b ∨ c < a))))) := by
  refine Con.ofG rfl (Nat.le_of_ble_eq_true rfl) ?_
  show G X 0 RX10 cX10_in 6 (some .boolean) (Qi (fun r M1 => M1 = M ∧ ((r = 1 ∧ b ≤ a ∧ a ≤ c) ∨ (r = 0 ∧ (a < b ∨ c < a))))) 0 [(0, vl a), (2, vl b), (4, vl c)] [] M
  refine g_lload_n (pc' := 1) 0 dX10_in_0 rfl rfl ?_
  refine g_lload_n (pc' := 2) 1 dX10_in_1 rfl rfl ?_
  refine g_lc_lt (pc' := 6) (tgt := 17) ha hb dX10_in_2 dX10_in_3 rfl rfl (fun c1 => ?_) (fun c1 => ?_)
  · refine g_iconst (pc' := 18) dX10_in_17 rfl ?_
    refine g_zreturn dX10_in_18 (by omega) ?_
    exact ⟨rfl, by omega⟩
  · refine g_lload_n (pc' := 7) 0 dX10_in_6 rfl rfl ?_
    refine g_lload (pc' := 9) 2 dX10_in_7 rfl rfl ?_
    refine g_lc_gt (pc' := 13) (tgt := 17) ha hc dX10_in_9 dX10_in_10 rfl rfl (fun c2 => ?_) (fun c2 => ?_)
    · refine g_iconst (pc' := 18) dX10_in_17 rfl ?_
      refine g_zreturn dX10_in_18 (by omega) ?_
      exact ⟨rfl, by omega⟩
    · refine g_iconst (pc' := 14) dX10_in_13 rfl ?_
      refine g_goto (tgt := 18) dX10_in_14 rfl ?_
      refine g_zreturn dX10_in_18 (by omega) ?_
      exact ⟨rfl, by omega⟩
set_option maxHeartbeats 4000000 in
set_option maxRecDepth 100000 in
theorem c_X10_isStuff (X : Cx) (M : Mm) (a : Int) (ha : inI a) : Con X 1 yX10_isStuff cX10_isStuff 1 (some .boolean) [vi a] M (Qi (fun r M1 => M1 = M ∧ ((r = 1 ∧ 0 ≤ a ∧ a ≤ 3) ∨ (r = 0 ∧ (a < 0 ∨ 3 < a))))) := by
  refine Con.ofG rfl (Nat.le_of_ble_eq_true rfl) ?_
  show G X 1 RX10 cX10_isStuff 1 (some .boolean) (Qi (fun r M1 => M1 = M ∧ ((r = 1 ∧ 0 ≤ a ∧ a ≤ 3) ∨ (r = 0 ∧ (a < 0 ∨ 3 < a))))) 0 [(0, vi a)] [] M
  refine g_iload_n (pc' := 1) 0 dX10_isStuff_0 rfl rfl ?_
  refine g_i2l (pc' := 2) ha dX10_isStuff_1 rfl ?_
  refine g_lconst (pc' := 3) (v := 0) dX10_isStuff_2 rfl (by decide) ?_
  refine g_ldc2 (pc' := 6) (v := 3) dX10_isStuff_3 rfl k_X10_91 ?_
  refine g_callSip (pc' := 9) (As := [vl a, vl 0, vl 3]) (S := []) dX10_isStuff_6 rfl m_X10_83 w_X10_in (c_X10_in X M a ⟨by omega, by omega⟩ 0 (by decide) 3 (by decide)) rfl (by decide) (by decide) rfl (Nat.le_of_ble_eq_true rfl) (fun z2 q1 => ?_)
  refine g_zreturn dX10_isStuff_9 (by omega) ?_
  exact ⟨rfl, by omega⟩
set_option maxHeartbeats 4000000 in
set_option maxRecDepth 100000 in
theorem c_X10_isAmount (X : Cx) (M : Mm) (a : Int) (ha : inI a) : Con X 1 yX10_isAmount cX10_isAmount 1 (some .boolean) [vi a] M (Qi (fun r M1 => M1 = M ∧ ((r = 1 ∧ 1 ≤ a ∧ a ≤ 60) ∨ (r = 0 ∧ (a < 1 ∨ 60 < a))))) := by
  refine Con.ofG rfl (Nat.le_of_ble_eq_true rfl) ?_
  show G X 1 RX10 cX10_isAmount 1 (some .boolean) (Qi (fun r M1 => M1 = M ∧ ((r = 1 ∧ 1 ≤ a ∧ a ≤ 60) ∨ (r = 0 ∧ (a < 1 ∨ 60 < a))))) 0 [(0, vi a)] [] M
  refine g_iload_n (pc' := 1) 0 dX10_isAmount_0 rfl rfl ?_
  refine g_i2l (pc' := 2) ha dX10_isAmount_1 rfl ?_
  refine g_lconst (pc' := 3) (v := 1) dX10_isAmount_2 rfl (by decide) ?_
  refine g_ldc2 (pc' := 6) (v := 60) dX10_isAmount_3 rfl k_X10_93 ?_
  refine g_callSip (pc' := 9) (As := [vl a, vl 1, vl 60]) (S := []) dX10_isAmount_6 rfl m_X10_83 w_X10_in (c_X10_in X M a ⟨by omega, by omega⟩ 1 (by decide) 60 (by decide)) rfl (by decide) (by decide) rfl (Nat.le_of_ble_eq_true rfl) (fun z2 q1 => ?_)
  refine g_zreturn dX10_isAmount_9 (by omega) ?_
  exact ⟨rfl, by omega⟩
set_option maxHeartbeats 4000000 in
set_option maxRecDepth 100000 in
theorem c_X10_isGlass (X : Cx) (M : Mm) (hi : IM M) (g : Int) (hg : inI g) : Con X 1 yX10_isGlass cX10_isGlass 2 (some .boolean) [vr X 97, vi g] M (Qi (fun r M1 => M1 = M ∧ ((r = 1 ∧ 0 ≤ g ∧ g < M 99 0) ∨ (r = 0 ∧ (g < 0 ∨ M 99 0 ≤ g))))) := by
  refine Con.ofG rfl (Nat.le_of_ble_eq_true rfl) ?_
  show G X 1 RX10 cX10_isGlass 2 (some .boolean) (Qi (fun r M1 => M1 = M ∧ ((r = 1 ∧ 0 ≤ g ∧ g < M 99 0) ∨ (r = 0 ∧ (g < 0 ∨ M 99 0 ≤ g))))) 0 [(0, vr X 97), (1, vi g)] [] M
  refine g_iload_n (pc' := 1) 1 dX10_isGlass_0 rfl rfl ?_
  refine g_i2l (pc' := 2) hg dX10_isGlass_1 rfl ?_
  refine g_lconst (pc' := 3) (v := 0) dX10_isGlass_2 rfl (by decide) ?_
  refine g_aload_n (pc' := 4) 0 dX10_isGlass_3 rfl rfl ?_
  refine g_getR (pc' := 7) dX10_isGlass_4 rfl f_X10_13 rfl rfl ?_
  refine g_iconst (pc' := 8) dX10_isGlass_7 rfl ?_
  refine g_iald (pc' := 9) dX10_isGlass_8 rfl rfl (by decide) (by decide) (fun v1 ev1 rv1 => ?_)
  have ev1 : v1 = M 99 0 := ev1
  have bv1 : 0 ≤ v1 ∧ v1 ≤ 6 := by rw [ev1]; exact hi.1.1
  refine g_i2l (pc' := 10) rv1 dX10_isGlass_9 rfl ?_
  refine g_lconst (pc' := 11) (v := 1) dX10_isGlass_10 rfl (by decide) ?_
  refine g_lsub (pc' := 12) dX10_isGlass_11 rfl ?_
  refine g_callSip (pc' := 15) (As := [vl g, vl 0, vl (v1 - 1)]) (S := []) dX10_isGlass_12 rfl m_X10_83 w_X10_in (c_X10_in X M g ⟨by omega, by omega⟩ 0 (by decide) (v1 - 1) ⟨by omega, by omega⟩) rfl (by decide) (by decide) rfl (Nat.le_of_ble_eq_true rfl) (fun z3 q2 => ?_)
  refine g_zreturn dX10_isGlass_15 (by omega) ?_
  exact ⟨rfl, by first | assumption | decide | omega⟩
set_option maxHeartbeats 4000000 in
set_option maxRecDepth 100000 in
theorem c_X10_full (X : Cx) (M : Mm) (hi : IM M) (g : Int) (hg : inI g) (hg5 : 0 ≤ g ∧ g ≤ 5) : Con X 0 yX10_full cX10_full 5 (some .int) [vr X 97, vi g] M (Qi (fun r M1 => M1 = M ∧ ((0 ≤ r ∧ r ≤ 60) ∧ M 101 (4 * g.toNat) + M 101 (4 * g.toNat + 1) + M 101 (4 * g.toNat + 2) + M 101 (4 * g.toNat + 3) = r * M 101 24))) := by
  refine Con.ofG rfl (Nat.le_of_ble_eq_true rfl) ?_
  show G X 0 RX10 cX10_full 5 (some .int) (Qi (fun r M1 => M1 = M ∧ ((0 ≤ r ∧ r ≤ 60) ∧ M 101 (4 * g.toNat) + M 101 (4 * g.toNat + 1) + M 101 (4 * g.toNat + 2) + M 101 (4 * g.toNat + 3) = r * M 101 24))) 0 [(0, vr X 97), (1, vi g)] [] M
  refine g_lconst (pc' := 1) (v := 0) dX10_full_0 rfl (by decide) ?_
  refine g_lstore_n (pc' := 2) (i := 2) (L' := [(2, vl 0), (0, vr X 97), (1, vi g)]) dX10_full_1 rfl rfl (by decide) rfl ?_
  refine g_iconst (pc' := 3) dX10_full_2 rfl ?_
  refine g_istore (pc' := 5) (L' := [(4, vi 0), (2, vl 0), (0, vr X 97), (1, vi g)]) dX10_full_3 rfl (by decide) rfl ?_
  refine g_iload (pc' := 7) 0 dX10_full_5 rfl rfl ?_
  refine g_iconst (pc' := 8) dX10_full_7 rfl ?_
  refine g_ic_ge (pc' := 11) (tgt := 31) (by decide) (by decide) dX10_full_8 rfl rfl (fun c1 => ?_) (fun c1 => ?_)
  · exact absurd c1 (by omega)
  · refine g_lload_n (pc' := 12) 1 dX10_full_11 rfl rfl ?_
    refine g_aload_n (pc' := 13) 2 dX10_full_12 rfl rfl ?_
    refine g_getR (pc' := 16) dX10_full_13 rfl f_X10_19 rfl rfl ?_
    refine g_iconst (pc' := 17) dX10_full_16 rfl ?_
    refine g_iload_n (pc' := 18) 3 dX10_full_17 rfl rfl ?_
    refine g_imul (pc' := 19) dX10_full_18 rfl ?_
    refine g_iload (pc' := 21) 0 dX10_full_19 rfl rfl ?_
    refine g_iadd (pc' := 22) dX10_full_21 rfl ?_
    refine g_lald (pc' := 23) dX10_full_22 rfl rfl (by omega) (by omega) (fun v2 ev2 rv2 => ?_)
    have bv2 : 0 ≤ v2 ∧ v2 ≤ 6000000000000000 := by rw [ev2]; exact PIw.le hi.2.1 (by omega)
    refine g_ladd (pc' := 24) dX10_full_23 rfl ?_
    refine g_lstore_n (pc' := 25) (i := 2) (L' := [(2, vl (0 + v2)), (4, vi 0), (0, vr X 97), (1, vi g)]) dX10_full_24 rfl rfl (by decide) rfl ?_
    refine g_iinc (pc' := 28) (L' := [(4, vi 1), (2, vl (0 + v2)), (0, vr X 97), (1, vi g)]) 1 dX10_full_25 rfl rfl (by decide) rfl ?_
    refine g_goto (tgt := 5) dX10_full_28 rfl ?_
    refine g_iload (pc' := 7) 0 dX10_full_5 rfl rfl ?_
    refine g_iconst (pc' := 8) dX10_full_7 rfl ?_
    refine g_ic_ge (pc' := 11) (tgt := 31) (by decide) (by decide) dX10_full_8 rfl rfl (fun c3 => ?_) (fun c3 => ?_)
    · exact absurd c3 (by omega)
    · refine g_lload_n (pc' := 12) 1 dX10_full_11 rfl rfl ?_
      refine g_aload_n (pc' := 13) 2 dX10_full_12 rfl rfl ?_
      refine g_getR (pc' := 16) dX10_full_13 rfl f_X10_19 rfl rfl ?_
      refine g_iconst (pc' := 17) dX10_full_16 rfl ?_
      refine g_iload_n (pc' := 18) 3 dX10_full_17 rfl rfl ?_
      refine g_imul (pc' := 19) dX10_full_18 rfl ?_
      refine g_iload (pc' := 21) 0 dX10_full_19 rfl rfl ?_
      refine g_iadd (pc' := 22) dX10_full_21 rfl ?_
      refine g_lald (pc' := 23) dX10_full_22 rfl rfl (by omega) (by omega) (fun v4 ev4 rv4 => ?_)
      have bv4 : 0 ≤ v4 ∧ v4 ≤ 6000000000000000 := by rw [ev4]; exact PIw.le hi.2.1 (by omega)
      refine g_ladd (pc' := 24) dX10_full_23 rfl ?_
      refine g_lstore_n (pc' := 25) (i := 2) (L' := [(2, vl ((0 + v2) + v4)), (4, vi 1), (0, vr X 97), (1, vi g)]) dX10_full_24 rfl rfl (by decide) rfl ?_
      refine g_iinc (pc' := 28) (L' := [(4, vi 2), (2, vl ((0 + v2) + v4)), (0, vr X 97), (1, vi g)]) 1 dX10_full_25 rfl rfl (by decide) rfl ?_
      refine g_goto (tgt := 5) dX10_full_28 rfl ?_
      refine g_iload (pc' := 7) 0 dX10_full_5 rfl rfl ?_
      refine g_iconst (pc' := 8) dX10_full_7 rfl ?_
      refine g_ic_ge (pc' := 11) (tgt := 31) (by decide) (by decide) dX10_full_8 rfl rfl (fun c5 => ?_) (fun c5 => ?_)
      · exact absurd c5 (by omega)
      · refine g_lload_n (pc' := 12) 1 dX10_full_11 rfl rfl ?_
        refine g_aload_n (pc' := 13) 2 dX10_full_12 rfl rfl ?_
        refine g_getR (pc' := 16) dX10_full_13 rfl f_X10_19 rfl rfl ?_
        refine g_iconst (pc' := 17) dX10_full_16 rfl ?_
        refine g_iload_n (pc' := 18) 3 dX10_full_17 rfl rfl ?_
        refine g_imul (pc' := 19) dX10_full_18 rfl ?_
        refine g_iload (pc' := 21) 0 dX10_full_19 rfl rfl ?_
        refine g_iadd (pc' := 22) dX10_full_21 rfl ?_
        refine g_lald (pc' := 23) dX10_full_22 rfl rfl (by omega) (by omega) (fun v6 ev6 rv6 => ?_)
        have bv6 : 0 ≤ v6 ∧ v6 ≤ 6000000000000000 := by rw [ev6]; exact PIw.le hi.2.1 (by omega)
        refine g_ladd (pc' := 24) dX10_full_23 rfl ?_
        refine g_lstore_n (pc' := 25) (i := 2) (L' := [(2, vl (((0 + v2) + v4) + v6)), (4, vi 2), (0, vr X 97), (1, vi g)]) dX10_full_24 rfl rfl (by decide) rfl ?_
        refine g_iinc (pc' := 28) (L' := [(4, vi 3), (2, vl (((0 + v2) + v4) + v6)), (0, vr X 97), (1, vi g)]) 1 dX10_full_25 rfl rfl (by decide) rfl ?_
        refine g_goto (tgt := 5) dX10_full_28 rfl ?_
        refine g_iload (pc' := 7) 0 dX10_full_5 rfl rfl ?_
        refine g_iconst (pc' := 8) dX10_full_7 rfl ?_
        refine g_ic_ge (pc' := 11) (tgt := 31) (by decide) (by decide) dX10_full_8 rfl rfl (fun c7 => ?_) (fun c7 => ?_)
        · exact absurd c7 (by omega)
        · refine g_lload_n (pc' := 12) 1 dX10_full_11 rfl rfl ?_
          refine g_aload_n (pc' := 13) 2 dX10_full_12 rfl rfl ?_
          refine g_getR (pc' := 16) dX10_full_13 rfl f_X10_19 rfl rfl ?_
          refine g_iconst (pc' := 17) dX10_full_16 rfl ?_
          refine g_iload_n (pc' := 18) 3 dX10_full_17 rfl rfl ?_
          refine g_imul (pc' := 19) dX10_full_18 rfl ?_
          refine g_iload (pc' := 21) 0 dX10_full_19 rfl rfl ?_
          refine g_iadd (pc' := 22) dX10_full_21 rfl ?_
          refine g_lald (pc' := 23) dX10_full_22 rfl rfl (by omega) (by omega) (fun v8 ev8 rv8 => ?_)
          have bv8 : 0 ≤ v8 ∧ v8 ≤ 6000000000000000 := by rw [ev8]; exact PIw.le hi.2.1 (by omega)
          refine g_ladd (pc' := 24) dX10_full_23 rfl ?_
          refine g_lstore_n (pc' := 25) (i := 2) (L' := [(2, vl ((((0 + v2) + v4) + v6) + v8)), (4, vi 3), (0, vr X 97), (1, vi g)]) dX10_full_24 rfl rfl (by decide) rfl ?_
          refine g_iinc (pc' := 28) (L' := [(4, vi 4), (2, vl ((((0 + v2) + v4) + v6) + v8)), (0, vr X 97), (1, vi g)]) 1 dX10_full_25 rfl rfl (by decide) rfl ?_
          refine g_goto (tgt := 5) dX10_full_28 rfl ?_
          refine g_iload (pc' := 7) 0 dX10_full_5 rfl rfl ?_
          refine g_iconst (pc' := 8) dX10_full_7 rfl ?_
          refine g_ic_ge (pc' := 11) (tgt := 31) (by decide) (by decide) dX10_full_8 rfl rfl (fun c9 => ?_) (fun c9 => ?_)
          · refine g_lload_n (pc' := 32) 1 dX10_full_31 rfl rfl ?_
            refine g_aload_n (pc' := 33) 2 dX10_full_32 rfl rfl ?_
            refine g_getR (pc' := 36) dX10_full_33 rfl f_X10_19 rfl rfl ?_
            refine g_bipush (pc' := 38) (v := 24) dX10_full_36 rfl (by decide) ?_
            refine g_lald (pc' := 39) dX10_full_38 rfl rfl (by decide) (by decide) (fun v10 ev10 rv10 => ?_)
            have ev10 : v10 = M 101 24 := ev10
            have bv10 : 1 ≤ v10 ∧ v10 ≤ 100000000000000 := by rw [ev10]; exact hi.2.1.1
            obtain ⟨f, hf, hs⟩ := PIw.sum hi.2.1 (g := g.toNat) (by omega)
            have wv2 : v2 = M 101 (4 * g.toNat) := by rw [ev2]; congr 1; omega
            have wv4 : v4 = M 101 (4 * g.toNat + 1) := by rw [ev4]; congr 1; omega
            have wv6 : v6 = M 101 (4 * g.toNat + 2) := by rw [ev6]; congr 1; omega
            have wv8 : v8 = M 101 (4 * g.toNat + 3) := by rw [ev8]; congr 1; omega
            have hv : (((0 + v2) + v4) + v6) + v8 = f * v10 := by rw [ev10]; omega
            have hq : ((((0 + v2) + v4) + v6) + v8).tdiv v10 = f := fl_eq (m := M 101) hv (by omega)
            refine g_ldiv (pc' := 40) ⟨by omega, by omega⟩ rv10 (by omega) dX10_full_39 rfl ?_
            rw [hq]
            refine g_l2i (pc' := 41) dX10_full_40 rfl ?_
            refine g_ireturn dX10_full_41 ?_
            exact ⟨rfl, hf, hs⟩
          · exact absurd c9 (by omega)
set_option maxHeartbeats 4000000 in
set_option maxRecDepth 100000 in
theorem c_X10_room (X : Cx) (M : Mm) (hi : IM M) (g : Int) (hg : inI g) (hg5 : 0 ≤ g ∧ g ≤ 5) : Con X 1 yX10_room cX10_room 2 (some .int) [vr X 97, vi g] M (Qi (fun r M1 => M1 = M ∧ (∃ f : Int, (0 ≤ f ∧ f ≤ 60) ∧ M 101 (4 * g.toNat) + M 101 (4 * g.toNat + 1) + M 101 (4 * g.toNat + 2) + M 101 (4 * g.toNat + 3) = f * M 101 24 ∧ (-60 ≤ r ∧ r ≤ 60 - f)))) := by
  refine Con.ofG rfl (Nat.le_of_ble_eq_true rfl) ?_
  show G X 1 RX10 cX10_room 2 (some .int) (Qi (fun r M1 => M1 = M ∧ (∃ f : Int, (0 ≤ f ∧ f ≤ 60) ∧ M 101 (4 * g.toNat) + M 101 (4 * g.toNat + 1) + M 101 (4 * g.toNat + 2) + M 101 (4 * g.toNat + 3) = f * M 101 24 ∧ (-60 ≤ r ∧ r ≤ 60 - f)))) 0 [(0, vr X 97), (1, vi g)] [] M
  refine g_aload_n (pc' := 1) 0 dX10_room_0 rfl rfl ?_
  refine g_getR (pc' := 4) dX10_room_1 rfl f_X10_13 rfl rfl ?_
  refine g_iconst (pc' := 5) dX10_room_4 rfl ?_
  refine g_iload_n (pc' := 6) 1 dX10_room_5 rfl rfl ?_
  refine g_iadd (pc' := 7) dX10_room_6 rfl ?_
  refine g_iald (pc' := 8) dX10_room_7 rfl rfl (by omega) (by omega) (fun v1 ev1 rv1 => ?_)
  have dv1 : 0 ≤ v1 ∧ v1 ≤ 60 := by rw [ev1]; exact hi.1.sz (by omega) (by omega)
  refine g_aload_n (pc' := 9) 0 dX10_room_8 rfl rfl ?_
  refine g_iload_n (pc' := 10) 1 dX10_room_9 rfl rfl ?_
  refine g_callVip (pc' := 13) (As := [vi g]) (b := 97) (S := [vi v1]) dX10_room_10 rfl m_X10_99 w_X10_full (c_X10_full X M hi g hg ⟨by omega, by omega⟩) rfl ⟨_, _, _, rfl, rfl, rfl⟩ (by decide) (by decide) rfl (Nat.le_of_ble_eq_true rfl) (fun z3 q2 => ?_)
  refine g_isub (pc' := 14) dX10_room_13 rfl ?_
  refine g_ireturn dX10_room_14 ?_
  exact ⟨rfl, z3, q2.1, q2.2, by have := q2.1; omega⟩
set_option maxHeartbeats 4000000 in
set_option maxRecDepth 100000 in
theorem c_X10_tasteOf (X : Cx) (M : Mm) (hi : IM M) (g : Int) (hg : inI g) (s : Int) (hs : inI s) (hg5 : 0 ≤ g ∧ g ≤ 5) (hs3 : 0 ≤ s ∧ s ≤ 3) : Con X 1 yX10_tasteOf cX10_tasteOf 4 (some .int) [vr X 97, vi g, vi s] M (Qi (fun r M1 => M1 = M ∧ (inI r))) := by
  refine Con.ofG rfl (Nat.le_of_ble_eq_true rfl) ?_
  show G X 1 RX10 cX10_tasteOf 4 (some .int) (Qi (fun r M1 => M1 = M ∧ (inI r))) 0 [(0, vr X 97), (1, vi g), (2, vi s)] [] M
  refine g_aload_n (pc' := 1) 0 dX10_tasteOf_0 rfl rfl ?_
  refine g_iload_n (pc' := 2) 1 dX10_tasteOf_1 rfl rfl ?_
  refine g_callVip (pc' := 5) (As := [vi g]) (b := 97) (S := []) dX10_tasteOf_2 rfl m_X10_99 w_X10_full (c_X10_full X M hi g hg ⟨by omega, by omega⟩) rfl ⟨_, _, _, rfl, rfl, rfl⟩ (by decide) (by decide) rfl (Nat.le_of_ble_eq_true rfl) (fun z2 q1 => ?_)
  refine g_istore_n (pc' := 6) (i := 3) (L' := [(3, vi z2), (0, vr X 97), (1, vi g), (2, vi s)]) dX10_tasteOf_5 rfl rfl (by decide) rfl ?_
  refine g_iload_n (pc' := 7) 0 dX10_tasteOf_6 rfl rfl ?_
  refine g_if_ne (pc' := 10) (tgt := 14) ⟨by omega, by omega⟩ dX10_tasteOf_7 rfl rfl (fun c3 => ?_) (fun c3 => ?_)
  · refine g_ldc2 (pc' := 17) (v := 100) dX10_tasteOf_14 rfl k_X10_110 ?_
    refine g_aload_n (pc' := 18) 1 dX10_tasteOf_17 rfl rfl ?_
    refine g_getR (pc' := 21) dX10_tasteOf_18 rfl f_X10_19 rfl rfl ?_
    refine g_iconst (pc' := 22) dX10_tasteOf_21 rfl ?_
    refine g_iload_n (pc' := 23) 2 dX10_tasteOf_22 rfl rfl ?_
    refine g_imul (pc' := 24) dX10_tasteOf_23 rfl ?_
    refine g_iload_n (pc' := 25) 3 dX10_tasteOf_24 rfl rfl ?_
    refine g_iadd (pc' := 26) dX10_tasteOf_25 rfl ?_
    refine g_lald (pc' := 27) dX10_tasteOf_26 rfl rfl (by omega) (by omega) (fun v4 ev4 rv4 => ?_)
    have bv4 : 0 ≤ v4 ∧ v4 ≤ 6000000000000000 := by rw [ev4]; exact PIw.le hi.2.1 (by omega)
    refine g_lmul (pc' := 28) dX10_tasteOf_27 rfl ?_
    refine g_iload_n (pc' := 29) 0 dX10_tasteOf_28 rfl rfl ?_
    refine g_i2l (pc' := 30) ⟨by omega, by omega⟩ dX10_tasteOf_29 rfl ?_
    refine g_aload_n (pc' := 31) 1 dX10_tasteOf_30 rfl rfl ?_
    refine g_getR (pc' := 34) dX10_tasteOf_31 rfl f_X10_19 rfl rfl ?_
    refine g_bipush (pc' := 36) (v := 24) dX10_tasteOf_34 rfl (by decide) ?_
    refine g_lald (pc' := 37) dX10_tasteOf_36 rfl rfl (by decide) (by decide) (fun v5 ev5 rv5 => ?_)
    have ev5 : v5 = M 101 24 := ev5
    have bv5 : 1 ≤ v5 ∧ v5 ≤ 100000000000000 := by rw [ev5]; exact hi.2.1.1
    refine g_lmul (pc' := 38) dX10_tasteOf_37 rfl ?_
    have hm := mul60 (f := z2) (L := v5) (B := 100000000000000) (by omega) (by omega) (by omega) (by omega)
    have hm1 : 0 < z2 * v5 := Int.mul_pos (by omega) (by omega)
    refine g_ldiv (pc' := 39) ⟨by omega, by omega⟩ ⟨by omega, by omega⟩ (by omega) dX10_tasteOf_38 rfl ?_
    refine g_l2i (pc' := 40) dX10_tasteOf_39 rfl ?_
    refine g_nrmI (fun n6 rn6 en6 => ?_)
    have bn6 : (-2147483648 ≤ (100 * v4).tdiv (z2 * v5) ∧ (100 * v4).tdiv (z2 * v5) ≤ 2147483647) → n6 = (100 * v4).tdiv (z2 * v5) := fun h => en6.trans (bm32 h)
    refine g_ireturn dX10_tasteOf_40 ?_
    exact ⟨rfl, by first | assumption | decide | omega⟩
  · refine g_iconst (pc' := 11) dX10_tasteOf_10 rfl ?_
    refine g_goto (tgt := 40) dX10_tasteOf_11 rfl ?_
    refine g_ireturn dX10_tasteOf_40 ?_
    exact ⟨rfl, by first | assumption | decide | omega⟩
set_option maxHeartbeats 4000000 in
set_option maxRecDepth 100000 in
theorem l_X10_common_6 (X : Cx) (M : Mm) (a : Int) (ha : inL a) (b : Int) (hb : inL b) (pa : 1 ≤ a) (pb : 0 ≤ b) : ∀ (kk : Nat) (x : Int) (y : Int) (hx : inL x) (hy : inL y) (x0 : 0 ≤ x) (y0 : 0 ≤ y) (xy : 1 ≤ x + y) (dv : ∀ q : Int, q ∣ x → q ∣ y → q ∣ a ∧ q ∣ b), y.toNat = kk → G X 0 RX10 cX10_common 10 (some .long) (Ql (fun r M1 => M1 = M ∧ (1 ≤ r ∧ r ≤ a ∧ r ∣ a ∧ r ∣ b))) 6 [(4, vl x), (6, vl y)] [] M := by
  intro kk
  induction kk using Nat.strongRecOn with
  | ind kk ih =>
    intro x y hx hy x0 y0 xy dv hmes
    refine g_lload (pc' := 8) 1 dX10_common_6 rfl rfl ?_
    refine g_lconst (pc' := 9) (v := 0) dX10_common_8 rfl (by decide) ?_
    refine g_lc_eq (pc' := 13) (tgt := 31) ⟨by omega, by omega⟩ (by decide) dX10_common_9 dX10_common_10 rfl rfl (fun c1 => ?_) (fun c1 => ?_)
    · refine g_lload (pc' := 33) 0 dX10_common_31 rfl rfl ?_
      refine g_lreturn dX10_common_33 ?_
      exact ⟨rfl, by omega, Int.le_of_dvd (by omega) (dv x (Int.dvd_refl x) (by subst c1; exact Int.dvd_zero x)).1, dv x (Int.dvd_refl x) (by subst c1; exact Int.dvd_zero x)⟩
    · refine g_lload (pc' := 15) 0 dX10_common_13 rfl rfl ?_
      refine g_lload (pc' := 17) 1 dX10_common_15 rfl rfl ?_
      refine g_lrem (pc' := 18) ⟨by omega, by omega⟩ ⟨by omega, by omega⟩ (by omega) dX10_common_17 rfl ?_
      have htm := tmr (x := x) (k := y) x0 (by omega)
      obtain ⟨rr, htmE⟩ : ∃ z : Int, z = x.tmod y := ⟨_, rfl⟩
      rw [← htmE] at htm ⊢
      refine g_lstore (pc' := 20) (L' := [(8, vl rr), (4, vl x), (6, vl y)]) dX10_common_18 rfl (by decide) rfl ?_
      refine g_lload (pc' := 22) 2 dX10_common_20 rfl rfl ?_
      refine g_lstore (pc' := 24) (L' := [(4, vl y), (8, vl rr), (6, vl y)]) dX10_common_22 rfl (by decide) rfl ?_
      refine g_lload (pc' := 26) 1 dX10_common_24 rfl rfl ?_
      refine g_lstore (pc' := 28) (L' := [(6, vl rr), (4, vl y), (8, vl rr)]) dX10_common_26 rfl (by decide) rfl ?_
      refine g_goto (tgt := 6) dX10_common_28 rfl ?_
      refine g_sub [1, 0] rfl ?_
      exact ih _ (by omega) y rr (by first | assumption | exact ⟨by omega, by omega⟩) (by first | assumption | exact ⟨by omega, by omega⟩) (by omega) (by omega) (by omega) (fun q h1 h2 => dv q (tmod_dvd h1 (by first | exact h2 | (rw [← htmE]; exact h2))) h1) rfl
set_option maxHeartbeats 4000000 in
set_option maxRecDepth 100000 in
theorem c_X10_common (X : Cx) (M : Mm) (a : Int) (ha : inL a) (b : Int) (hb : inL b) (pa : 1 ≤ a) (pb : 0 ≤ b) : Con X 0 yX10_common cX10_common 10 (some .long) [vl a, vl b] M (Ql (fun r M1 => M1 = M ∧ (1 ≤ r ∧ r ≤ a ∧ r ∣ a ∧ r ∣ b))) := by
  refine Con.ofG rfl (Nat.le_of_ble_eq_true rfl) ?_
  show G X 0 RX10 cX10_common 10 (some .long) (Ql (fun r M1 => M1 = M ∧ (1 ≤ r ∧ r ≤ a ∧ r ∣ a ∧ r ∣ b))) 0 [(0, vl a), (2, vl b)] [] M
  refine g_lload_n (pc' := 1) 0 dX10_common_0 rfl rfl ?_
  refine g_lstore (pc' := 3) (L' := [(4, vl a), (0, vl a), (2, vl b)]) dX10_common_1 rfl (by decide) rfl ?_
  refine g_lload_n (pc' := 4) 2 dX10_common_3 rfl rfl ?_
  refine g_lstore (pc' := 6) (L' := [(6, vl b), (4, vl a), (0, vl a), (2, vl b)]) dX10_common_4 rfl (by decide) rfl ?_
  refine g_sub [1, 0] rfl ?_
  exact l_X10_common_6 X M a ha b hb pa pb _ a b (by first | assumption | exact ⟨by omega, by omega⟩) (by first | assumption | exact ⟨by omega, by omega⟩) (by omega) (by omega) (by omega) (fun q h1 h2 => ⟨h1, h2⟩) rfl
