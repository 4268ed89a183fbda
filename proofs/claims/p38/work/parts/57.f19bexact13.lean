set_option maxHeartbeats 4000000 in
set_option maxRecDepth 100000 in
theorem l_X8_append_x_3 (X : Cx) (M : Mm) (hi : IC M) (a : Int) (ha : inI a) (hl : 0 ≤ M 31 1 ∧ M 31 1 ≤ 396) : ∀ (kk : Nat) (s : Int) (M1 : Mm) (ic1 : IC M1) (fr1 : Fr (fun c => c = 31 ∨ c = 32) M M1) (hs : s = 24 ∨ s = 16 ∨ s = 8 ∨ s = 0 ∨ s = -8) (ht : 8 * (M1 31 1 - M 31 1) = 24 - s) (by1 : BYp (M 32) (M1 32) (M 31 1) a s), (s + 8).toNat = kk → G X 0 RX8 cX8_append 3 none (Qv (fun M1 => IC M1 ∧ Fr (fun c => c = 31 ∨ c = 32) M M1 ∧ (BYT (M 32) (M1 32) (M 31 1) a ∧ M1 31 1 = M 31 1 + 4))) 3 [(2, vi s), (0, vr X 31), (1, vi a)] [] M1 := by
  intro kk
  induction kk using Nat.strongRecOn with
  | ind kk ih =>
    intro s M1 ic1 fr1 hs ht by1 hmes
    refine g_iload_n (pc' := 4) 0 dX8_append_3 rfl rfl ?_
    refine g_if_lt (pc' := 7) (tgt := 49) ⟨by omega, by omega⟩ dX8_append_4 rfl rfl (fun c1 => ?_) (fun c1 => ?_)
    · refine g_vreturn dX8_append_49 ?_
      exact ⟨ic1, fr1, by1.e (by omega), by omega⟩
    · refine g_aload_n (pc' := 8) 1 dX8_append_7 rfl rfl ?_
      refine g_getI (pc' := 11) dX8_append_8 rfl f_X8_27 rfl rfl (fun v2 ev2 rv2 => ?_)
      have bv2 : 0 ≤ v2 ∧ v2 ≤ 400 := by rw [ev2]; exact ic1.2.2.1.1
      refine g_sipush (pc' := 14) (v := 400) dX8_append_11 rfl (by decide) ?_
      refine g_ic_ge (pc' := 17) (tgt := 49) rv2 (by decide) dX8_append_14 rfl rfl (fun c3 => ?_) (fun c3 => ?_)
      · refine g_vreturn dX8_append_49 ?_
        exact ⟨ic1, fr1, by1.e (by omega), by omega⟩
      · refine g_aload_n (pc' := 18) 1 dX8_append_17 rfl rfl ?_
        refine g_getR (pc' := 21) dX8_append_18 rfl f_X8_9 rfl rfl ?_
        refine g_aload_n (pc' := 22) 1 dX8_append_21 rfl rfl ?_
        refine g_getI (pc' := 25) dX8_append_22 rfl f_X8_27 rfl rfl (fun v4 ev4 rv4 => ?_)
        obtain rfl : v2 = v4 := ev2.trans ev4.symm
        refine g_iload_n (pc' := 26) 2 dX8_append_25 rfl rfl ?_
        refine g_iload_n (pc' := 27) 0 dX8_append_26 rfl rfl ?_
        refine g_ishr (pc' := 28) dX8_append_27 rfl (fun r5 => ?_)
        refine g_sipush (pc' := 31) (v := 255) dX8_append_28 rfl (by decide) ?_
        refine g_iand (pc' := 32) dX8_append_31 rfl (fun r6 => ?_)
        refine g_iast (pc' := 33) dX8_append_32 rfl rfl (by omega) (by omega) r6 (fun M7 hM7 => ?_)
        have iM7 : IC M7 := IC.wr ic1 hM7 (by unfold okw isT; first | decide | omega)
        have fM7 : Fr (fun c => c = 31 ∨ c = 32) M M7 := Fr.wr fr1 hM7 (by first | decide | omega | (dsimp only; omega))
        have wM7_31_1 : M7 31 1 = M1 31 1 := by rw [hM7]; exact mu_ne _ _ (by first | decide | omega)
        have byM7 : BYp (M 32) (M7 32) (M 31 1) a (s + -8) := BYp.s by1 (by omega) (by omega) (by omega) (show M7 32 = ms (M1 32) (M1 31 1).toNat (oand (oshr a s) 255) by rw [hM7, mu_is]; first | rfl | (congr 1; omega) | (congr 2; omega))
        refine g_aload_n (pc' := 34) 1 dX8_append_33 rfl rfl ?_
        refine g_dup (pc' := 35) dX8_append_34 rfl rfl ?_
        refine g_getI (pc' := 38) dX8_append_35 rfl f_X8_27 rfl rfl (fun v8 ev8 rv8 => ?_)
        have bv8 : 0 ≤ v8 ∧ v8 ≤ 400 := by rw [ev8]; exact iM7.2.2.1.1
        refine g_iconst (pc' := 39) dX8_append_38 rfl ?_
        refine g_iadd (pc' := 40) dX8_append_39 rfl ?_
        refine g_putI (pc' := 43) dX8_append_40 rfl p_X8_27 rfl rfl ⟨by omega, by omega⟩ (fun M9 hM9 => ?_)
        have iM9 : IC M9 := IC.wr iM7 hM9 (by unfold okw isT; first | decide | omega)
        have fM9 : Fr (fun c => c = 31 ∨ c = 32) M M9 := Fr.wr fM7 hM9 (by first | decide | omega | (dsimp only; omega))
        have xM9_31_1 : M9 31 1 = v8 + 1 := by rw [hM9]; exact mu_at _ _ _ _
        have byM9 : BYp (M 32) (M9 32) (M 31 1) a (s + -8) := by rw [hM9, mu_cell _ _ (by decide)]; exact byM7
        refine g_iinc (pc' := 46) (L' := [(2, vi (s + (-8))), (0, vr X 31), (1, vi a)]) 0 dX8_append_43 rfl rfl (by decide) rfl ?_
        refine g_goto (tgt := 3) dX8_append_46 rfl ?_
        refine g_sub [0, 1, 2] rfl ?_
        exact ih _ (by omega) (s + (-8)) M9 iM9 fM9 (by omega) (by omega) byM9 rfl
set_option maxHeartbeats 4000000 in
set_option maxRecDepth 100000 in
theorem c_X8_append_x (X : Cx) (M : Mm) (hi : IC M) (a : Int) (ha : inI a) (hl : 0 ≤ M 31 1 ∧ M 31 1 ≤ 396) : Con X 0 yX8_append cX8_append 3 none [vr X 31, vi a] M (Qv (fun M1 => IC M1 ∧ Fr (fun c => c = 31 ∨ c = 32) M M1 ∧ (BYT (M 32) (M1 32) (M 31 1) a ∧ M1 31 1 = M 31 1 + 4))) := by
  refine Con.ofG rfl (Nat.le_of_ble_eq_true rfl) ?_
  show G X 0 RX8 cX8_append 3 none (Qv (fun M1 => IC M1 ∧ Fr (fun c => c = 31 ∨ c = 32) M M1 ∧ (BYT (M 32) (M1 32) (M 31 1) a ∧ M1 31 1 = M 31 1 + 4))) 0 [(0, vr X 31), (1, vi a)] [] M
  refine g_bipush (pc' := 2) (v := 24) dX8_append_0 rfl (by decide) ?_
  refine g_istore_n (pc' := 3) (i := 2) (L' := [(2, vi 24), (0, vr X 31), (1, vi a)]) dX8_append_2 rfl rfl (by decide) rfl ?_
  refine g_sub [0, 1, 2] rfl ?_
  exact l_X8_append_x_3 X M hi a ha hl _ 24 M hi Fr.rf (by omega) (by omega) (BYp.z _ _ _) rfl
set_option maxHeartbeats 4000000 in
set_option maxRecDepth 100000 in
theorem c_X9_feed_x (X : Cx) (M : Mm) (hi : IC M) (a : Int) (ha : inI a) (b : Int) (hb : inI b) (c : Int) (hc : inI c) (e1 : Int) (he1 : inI e1) (e2 : Int) (he2 : inI e2) : Con X 2 yX9_feed cX9_feed 6 (some .int) [vr X 0, vi a, vi b, vi c, vi e1, vi e2] M (Qi (fun r M1 => IC M1 ∧ Fr (fun c => c = 31 ∨ c = 32) M M1 ∧ M1 2 5 = M 2 5 ∧ M1 1 2 = M 1 2 ∧ M1 1 4 = M 1 4 ∧ M1 1 6 = M 1 6 ∧ M1 11 5 = M 11 5 ∧ M1 10 2 = M 10 2 ∧ M1 10 4 = M 10 4 ∧ M1 10 6 = M 10 6 ∧ M1 20 5 = M 20 5 ∧ M1 19 2 = M 19 2 ∧ M1 19 4 = M 19 4 ∧ M1 19 6 = M 19 6 ∧ M1 29 0 = M 29 0 ∧ M1 29 1 = M 29 1 ∧ M1 0 11 = M 0 11 ∧ M1 0 12 = M 0 12 ∧ M1 0 13 = M 0 13 ∧ M1 0 10 = M 0 10 ∧ (((M 31 1 ≤ 380 → r = M 31 1 + 20 ∧ M1 31 1 = M 31 1 + 20) ∧ (380 < M 31 1 → r = -1 ∧ M1 31 1 = M 31 1)) ∧ FEX (M 32) (M1 32) (M 31 1) a b c e1 e2))) := by
  refine Con.ofG rfl (Nat.le_of_ble_eq_true rfl) ?_
  show G X 2 RX9 cX9_feed 6 (some .int) (Qi (fun r M1 => IC M1 ∧ Fr (fun c => c = 31 ∨ c = 32) M M1 ∧ M1 2 5 = M 2 5 ∧ M1 1 2 = M 1 2 ∧ M1 1 4 = M 1 4 ∧ M1 1 6 = M 1 6 ∧ M1 11 5 = M 11 5 ∧ M1 10 2 = M 10 2 ∧ M1 10 4 = M 10 4 ∧ M1 10 6 = M 10 6 ∧ M1 20 5 = M 20 5 ∧ M1 19 2 = M 19 2 ∧ M1 19 4 = M 19 4 ∧ M1 19 6 = M 19 6 ∧ M1 29 0 = M 29 0 ∧ M1 29 1 = M 29 1 ∧ M1 0 11 = M 0 11 ∧ M1 0 12 = M 0 12 ∧ M1 0 13 = M 0 13 ∧ M1 0 10 = M 0 10 ∧ (((M 31 1 ≤ 380 → r = M 31 1 + 20 ∧ M1 31 1 = M 31 1 + 20) ∧ (380 < M 31 1 → r = -1 ∧ M1 31 1 = M 31 1)) ∧ FEX (M 32) (M1 32) (M 31 1) a b c e1 e2))) 0 [(0, vr X 0), (1, vi a), (2, vi b), (3, vi c), (4, vi e1), (5, vi e2)] [] M
  refine g_aload_n (pc' := 1) 0 dX9_feed_0 rfl rfl ?_
  refine g_getR (pc' := 4) dX9_feed_1 rfl f_X9_35 rfl rfl ?_
  refine g_getI (pc' := 7) dX9_feed_4 rfl f_X9_147 rfl rfl (fun v1 ev1 rv1 => ?_)
  have bv1 : 0 ≤ v1 ∧ v1 ≤ 400 := by rw [ev1]; exact hi.2.2.1.1
  have av1 : v1 = M 31 1 := ev1
  refine g_bipush (pc' := 9) (v := 20) dX9_feed_7 rfl (by decide) ?_
  refine g_iadd (pc' := 10) dX9_feed_9 rfl ?_
  refine g_sipush (pc' := 13) (v := 400) dX9_feed_10 rfl (by decide) ?_
  refine g_ic_le (pc' := 16) (tgt := 18) ⟨by omega, by omega⟩ (by decide) dX9_feed_13 rfl rfl (fun c2 => ?_) (fun c2 => ?_)
  · refine g_aload_n (pc' := 19) 0 dX9_feed_18 rfl rfl ?_
    refine g_getR (pc' := 22) dX9_feed_19 rfl f_X9_35 rfl rfl ?_
    refine g_iload_n (pc' := 23) 1 dX9_feed_22 rfl rfl ?_
    refine g_callVv (pc' := 26) (As := [vi a]) (b := 31) (S := []) dX9_feed_23 rfl m_X9_152 w_X8_append (c_X8_append_x X M hi a ha (by omega)) rfl ⟨_, _, _, rfl, rfl, rfl⟩ (by decide) (by decide) rfl (Nat.le_of_ble_eq_true rfl) (fun M4 q3 => ?_)
    obtain ⟨iM4, fM40, pM4⟩ := q3
    have fM4 : Fr (fun c => c = 31 ∨ c = 32) M M4 := Fr.tr Fr.rf fM40 (fun _ z => z)
    have q2_5_M4 : id (M4 2 5 = M 2 5) := (congrFun (fM40 2 (by first | decide | omega | (dsimp only; omega))) 5)
    have q1_2_M4 : id (M4 1 2 = M 1 2) := (congrFun (fM40 1 (by first | decide | omega | (dsimp only; omega))) 2)
    have q1_4_M4 : id (M4 1 4 = M 1 4) := (congrFun (fM40 1 (by first | decide | omega | (dsimp only; omega))) 4)
    have q1_6_M4 : id (M4 1 6 = M 1 6) := (congrFun (fM40 1 (by first | decide | omega | (dsimp only; omega))) 6)
    have q11_5_M4 : id (M4 11 5 = M 11 5) := (congrFun (fM40 11 (by first | decide | omega | (dsimp only; omega))) 5)
    have q10_2_M4 : id (M4 10 2 = M 10 2) := (congrFun (fM40 10 (by first | decide | omega | (dsimp only; omega))) 2)
    have q10_4_M4 : id (M4 10 4 = M 10 4) := (congrFun (fM40 10 (by first | decide | omega | (dsimp only; omega))) 4)
    have q10_6_M4 : id (M4 10 6 = M 10 6) := (congrFun (fM40 10 (by first | decide | omega | (dsimp only; omega))) 6)
    have q20_5_M4 : id (M4 20 5 = M 20 5) := (congrFun (fM40 20 (by first | decide | omega | (dsimp only; omega))) 5)
    have q19_2_M4 : id (M4 19 2 = M 19 2) := (congrFun (fM40 19 (by first | decide | omega | (dsimp only; omega))) 2)
    have q19_4_M4 : id (M4 19 4 = M 19 4) := (congrFun (fM40 19 (by first | decide | omega | (dsimp only; omega))) 4)
    have q19_6_M4 : id (M4 19 6 = M 19 6) := (congrFun (fM40 19 (by first | decide | omega | (dsimp only; omega))) 6)
    have q29_0_M4 : id (M4 29 0 = M 29 0) := (congrFun (fM40 29 (by first | decide | omega | (dsimp only; omega))) 0)
    have q29_1_M4 : id (M4 29 1 = M 29 1) := (congrFun (fM40 29 (by first | decide | omega | (dsimp only; omega))) 1)
    have q0_11_M4 : id (M4 0 11 = M 0 11) := (congrFun (fM40 0 (by first | decide | omega | (dsimp only; omega))) 11)
    have q0_12_M4 : id (M4 0 12 = M 0 12) := (congrFun (fM40 0 (by first | decide | omega | (dsimp only; omega))) 12)
    have q0_13_M4 : id (M4 0 13 = M 0 13) := (congrFun (fM40 0 (by first | decide | omega | (dsimp only; omega))) 13)
    have q0_10_M4 : id (M4 0 10 = M 0 10) := (congrFun (fM40 0 (by first | decide | omega | (dsimp only; omega))) 10)
    obtain ⟨byM4, pnM4⟩ := pM4
    rw [show M 31 1 = M 31 1 + 0 by omega] at byM4
    rw [Int.add_zero] at byM4
    refine g_aload_n (pc' := 27) 0 dX9_feed_26 rfl rfl ?_
    refine g_getR (pc' := 30) dX9_feed_27 rfl f_X9_35 rfl rfl ?_
    refine g_iload_n (pc' := 31) 2 dX9_feed_30 rfl rfl ?_
    refine g_callVv (pc' := 34) (As := [vi b]) (b := 31) (S := []) dX9_feed_31 rfl m_X9_152 w_X8_append (c_X8_append_x X M4 iM4 b hb (by omega)) rfl ⟨_, _, _, rfl, rfl, rfl⟩ (by decide) (by decide) rfl (Nat.le_of_ble_eq_true rfl) (fun M6 q5 => ?_)
    obtain ⟨iM6, fM60, pM6⟩ := q5
    have fM6 : Fr (fun c => c = 31 ∨ c = 32) M M6 := Fr.tr fM4 fM60 (fun _ z => z)
    have q2_5_M6 : id (M6 2 5 = M 2 5) := (congrFun (fM60 2 (by first | decide | omega | (dsimp only; omega))) 5).trans q2_5_M4
    have q1_2_M6 : id (M6 1 2 = M 1 2) := (congrFun (fM60 1 (by first | decide | omega | (dsimp only; omega))) 2).trans q1_2_M4
    have q1_4_M6 : id (M6 1 4 = M 1 4) := (congrFun (fM60 1 (by first | decide | omega | (dsimp only; omega))) 4).trans q1_4_M4
    have q1_6_M6 : id (M6 1 6 = M 1 6) := (congrFun (fM60 1 (by first | decide | omega | (dsimp only; omega))) 6).trans q1_6_M4
    have q11_5_M6 : id (M6 11 5 = M 11 5) := (congrFun (fM60 11 (by first | decide | omega | (dsimp only; omega))) 5).trans q11_5_M4
    have q10_2_M6 : id (M6 10 2 = M 10 2) := (congrFun (fM60 10 (by first | decide | omega | (dsimp only; omega))) 2).trans q10_2_M4
    have q10_4_M6 : id (M6 10 4 = M 10 4) := (congrFun (fM60 10 (by first | decide | omega | (dsimp only; omega))) 4).trans q10_4_M4
    have q10_6_M6 : id (M6 10 6 = M 10 6) := (congrFun (fM60 10 (by first | decide | omega | (dsimp only; omega))) 6).trans q10_6_M4
    have q20_5_M6 : id (M6 20 5 = M 20 5) := (congrFun (fM60 20 (by first | decide | omega | (dsimp only; omega))) 5).trans q20_5_M4
    have q19_2_M6 : id (M6 19 2 = M 19 2) := (congrFun (fM60 19 (by first | decide | omega | (dsimp only; omega))) 2).trans q19_2_M4
    have q19_4_M6 : id (M6 19 4 = M 19 4) := (congrFun (fM60 19 (by first | decide | omega | (dsimp only; omega))) 4).trans q19_4_M4
    have q19_6_M6 : id (M6 19 6 = M 19 6) := (congrFun (fM60 19 (by first | decide | omega | (dsimp only; omega))) 6).trans q19_6_M4
    have q29_0_M6 : id (M6 29 0 = M 29 0) := (congrFun (fM60 29 (by first | decide | omega | (dsimp only; omega))) 0).trans q29_0_M4
    have q29_1_M6 : id (M6 29 1 = M 29 1) := (congrFun (fM60 29 (by first | decide | omega | (dsimp only; omega))) 1).trans q29_1_M4
    have q0_11_M6 : id (M6 0 11 = M 0 11) := (congrFun (fM60 0 (by first | decide | omega | (dsimp only; omega))) 11).trans q0_11_M4
    have q0_12_M6 : id (M6 0 12 = M 0 12) := (congrFun (fM60 0 (by first | decide | omega | (dsimp only; omega))) 12).trans q0_12_M4
    have q0_13_M6 : id (M6 0 13 = M 0 13) := (congrFun (fM60 0 (by first | decide | omega | (dsimp only; omega))) 13).trans q0_13_M4
    have q0_10_M6 : id (M6 0 10 = M 0 10) := (congrFun (fM60 0 (by first | decide | omega | (dsimp only; omega))) 10).trans q0_10_M4
    obtain ⟨byM6, pnM6⟩ := pM6
    rw [show M4 31 1 = M 31 1 + 4 by omega] at byM6
    refine g_aload_n (pc' := 35) 0 dX9_feed_34 rfl rfl ?_
    refine g_getR (pc' := 38) dX9_feed_35 rfl f_X9_35 rfl rfl ?_
    refine g_iload_n (pc' := 39) 3 dX9_feed_38 rfl rfl ?_
    refine g_callVv (pc' := 42) (As := [vi c]) (b := 31) (S := []) dX9_feed_39 rfl m_X9_152 w_X8_append (c_X8_append_x X M6 iM6 c hc (by omega)) rfl ⟨_, _, _, rfl, rfl, rfl⟩ (by decide) (by decide) rfl (Nat.le_of_ble_eq_true rfl) (fun M8 q7 => ?_)
    obtain ⟨iM8, fM80, pM8⟩ := q7
    have fM8 : Fr (fun c => c = 31 ∨ c = 32) M M8 := Fr.tr fM6 fM80 (fun _ z => z)
    have q2_5_M8 : id (M8 2 5 = M 2 5) := (congrFun (fM80 2 (by first | decide | omega | (dsimp only; omega))) 5).trans q2_5_M6
    have q1_2_M8 : id (M8 1 2 = M 1 2) := (congrFun (fM80 1 (by first | decide | omega | (dsimp only; omega))) 2).trans q1_2_M6
    have q1_4_M8 : id (M8 1 4 = M 1 4) := (congrFun (fM80 1 (by first | decide | omega | (dsimp only; omega))) 4).trans q1_4_M6
    have q1_6_M8 : id (M8 1 6 = M 1 6) := (congrFun (fM80 1 (by first | decide | omega | (dsimp only; omega))) 6).trans q1_6_M6
    have q11_5_M8 : id (M8 11 5 = M 11 5) := (congrFun (fM80 11 (by first | decide | omega | (dsimp only; omega))) 5).trans q11_5_M6
    have q10_2_M8 : id (M8 10 2 = M 10 2) := (congrFun (fM80 10 (by first | decide | omega | (dsimp only; omega))) 2).trans q10_2_M6
    have q10_4_M8 : id (M8 10 4 = M 10 4) := (congrFun (fM80 10 (by first | decide | omega | (dsimp only; omega))) 4).trans q10_4_M6
    have q10_6_M8 : id (M8 10 6 = M 10 6) := (congrFun (fM80 10 (by first | decide | omega | (dsimp only; omega))) 6).trans q10_6_M6
    have q20_5_M8 : id (M8 20 5 = M 20 5) := (congrFun (fM80 20 (by first | decide | omega | (dsimp only; omega))) 5).trans q20_5_M6
    have q19_2_M8 : id (M8 19 2 = M 19 2) := (congrFun (fM80 19 (by first | decide | omega | (dsimp only; omega))) 2).trans q19_2_M6
    have q19_4_M8 : id (M8 19 4 = M 19 4) := (congrFun (fM80 19 (by first | decide | omega | (dsimp only; omega))) 4).trans q19_4_M6
    have q19_6_M8 : id (M8 19 6 = M 19 6) := (congrFun (fM80 19 (by first | decide | omega | (dsimp only; omega))) 6).trans q19_6_M6
    have q29_0_M8 : id (M8 29 0 = M 29 0) := (congrFun (fM80 29 (by first | decide | omega | (dsimp only; omega))) 0).trans q29_0_M6
    have q29_1_M8 : id (M8 29 1 = M 29 1) := (congrFun (fM80 29 (by first | decide | omega | (dsimp only; omega))) 1).trans q29_1_M6
    have q0_11_M8 : id (M8 0 11 = M 0 11) := (congrFun (fM80 0 (by first | decide | omega | (dsimp only; omega))) 11).trans q0_11_M6
    have q0_12_M8 : id (M8 0 12 = M 0 12) := (congrFun (fM80 0 (by first | decide | omega | (dsimp only; omega))) 12).trans q0_12_M6
    have q0_13_M8 : id (M8 0 13 = M 0 13) := (congrFun (fM80 0 (by first | decide | omega | (dsimp only; omega))) 13).trans q0_13_M6
    have q0_10_M8 : id (M8 0 10 = M 0 10) := (congrFun (fM80 0 (by first | decide | omega | (dsimp only; omega))) 10).trans q0_10_M6
    obtain ⟨byM8, pnM8⟩ := pM8
    rw [show M6 31 1 = M 31 1 + 8 by omega] at byM8
    refine g_aload_n (pc' := 43) 0 dX9_feed_42 rfl rfl ?_
    refine g_getR (pc' := 46) dX9_feed_43 rfl f_X9_35 rfl rfl ?_
    refine g_iload (pc' := 48) 4 dX9_feed_46 rfl rfl ?_
    refine g_callVv (pc' := 51) (As := [vi e1]) (b := 31) (S := []) dX9_feed_48 rfl m_X9_152 w_X8_append (c_X8_append_x X M8 iM8 e1 he1 (by omega)) rfl ⟨_, _, _, rfl, rfl, rfl⟩ (by decide) (by decide) rfl (Nat.le_of_ble_eq_true rfl) (fun M10 q9 => ?_)
    obtain ⟨iM10, fM100, pM10⟩ := q9
    have fM10 : Fr (fun c => c = 31 ∨ c = 32) M M10 := Fr.tr fM8 fM100 (fun _ z => z)
    have q2_5_M10 : id (M10 2 5 = M 2 5) := (congrFun (fM100 2 (by first | decide | omega | (dsimp only; omega))) 5).trans q2_5_M8
    have q1_2_M10 : id (M10 1 2 = M 1 2) := (congrFun (fM100 1 (by first | decide | omega | (dsimp only; omega))) 2).trans q1_2_M8
    have q1_4_M10 : id (M10 1 4 = M 1 4) := (congrFun (fM100 1 (by first | decide | omega | (dsimp only; omega))) 4).trans q1_4_M8
    have q1_6_M10 : id (M10 1 6 = M 1 6) := (congrFun (fM100 1 (by first | decide | omega | (dsimp only; omega))) 6).trans q1_6_M8
    have q11_5_M10 : id (M10 11 5 = M 11 5) := (congrFun (fM100 11 (by first | decide | omega | (dsimp only; omega))) 5).trans q11_5_M8
    have q10_2_M10 : id (M10 10 2 = M 10 2) := (congrFun (fM100 10 (by first | decide | omega | (dsimp only; omega))) 2).trans q10_2_M8
    have q10_4_M10 : id (M10 10 4 = M 10 4) := (congrFun (fM100 10 (by first | decide | omega | (dsimp only; omega))) 4).trans q10_4_M8
    have q10_6_M10 : id (M10 10 6 = M 10 6) := (congrFun (fM100 10 (by first | decide | omega | (dsimp only; omega))) 6).trans q10_6_M8
    have q20_5_M10 : id (M10 20 5 = M 20 5) := (congrFun (fM100 20 (by first | decide | omega | (dsimp only; omega))) 5).trans q20_5_M8
    have q19_2_M10 : id (M10 19 2 = M 19 2) := (congrFun (fM100 19 (by first | decide | omega | (dsimp only; omega))) 2).trans q19_2_M8
    have q19_4_M10 : id (M10 19 4 = M 19 4) := (congrFun (fM100 19 (by first | decide | omega | (dsimp only; omega))) 4).trans q19_4_M8
    have q19_6_M10 : id (M10 19 6 = M 19 6) := (congrFun (fM100 19 (by first | decide | omega | (dsimp only; omega))) 6).trans q19_6_M8
    have q29_0_M10 : id (M10 29 0 = M 29 0) := (congrFun (fM100 29 (by first | decide | omega | (dsimp only; omega))) 0).trans q29_0_M8
    have q29_1_M10 : id (M10 29 1 = M 29 1) := (congrFun (fM100 29 (by first | decide | omega | (dsimp only; omega))) 1).trans q29_1_M8
    have q0_11_M10 : id (M10 0 11 = M 0 11) := (congrFun (fM100 0 (by first | decide | omega | (dsimp only; omega))) 11).trans q0_11_M8
    have q0_12_M10 : id (M10 0 12 = M 0 12) := (congrFun (fM100 0 (by first | decide | omega | (dsimp only; omega))) 12).trans q0_12_M8
    have q0_13_M10 : id (M10 0 13 = M 0 13) := (congrFun (fM100 0 (by first | decide | omega | (dsimp only; omega))) 13).trans q0_13_M8
    have q0_10_M10 : id (M10 0 10 = M 0 10) := (congrFun (fM100 0 (by first | decide | omega | (dsimp only; omega))) 10).trans q0_10_M8
    obtain ⟨byM10, pnM10⟩ := pM10
    rw [show M8 31 1 = M 31 1 + 12 by omega] at byM10
    refine g_aload_n (pc' := 52) 0 dX9_feed_51 rfl rfl ?_
    refine g_getR (pc' := 55) dX9_feed_52 rfl f_X9_35 rfl rfl ?_
    refine g_iload (pc' := 57) 5 dX9_feed_55 rfl rfl ?_
    refine g_callVv (pc' := 60) (As := [vi e2]) (b := 31) (S := []) dX9_feed_57 rfl m_X9_152 w_X8_append (c_X8_append_x X M10 iM10 e2 he2 (by omega)) rfl ⟨_, _, _, rfl, rfl, rfl⟩ (by decide) (by decide) rfl (Nat.le_of_ble_eq_true rfl) (fun M12 q11 => ?_)
    obtain ⟨iM12, fM120, pM12⟩ := q11
    have fM12 : Fr (fun c => c = 31 ∨ c = 32) M M12 := Fr.tr fM10 fM120 (fun _ z => z)
    have q2_5_M12 : id (M12 2 5 = M 2 5) := (congrFun (fM120 2 (by first | decide | omega | (dsimp only; omega))) 5).trans q2_5_M10
    have q1_2_M12 : id (M12 1 2 = M 1 2) := (congrFun (fM120 1 (by first | decide | omega | (dsimp only; omega))) 2).trans q1_2_M10
    have q1_4_M12 : id (M12 1 4 = M 1 4) := (congrFun (fM120 1 (by first | decide | omega | (dsimp only; omega))) 4).trans q1_4_M10
    have q1_6_M12 : id (M12 1 6 = M 1 6) := (congrFun (fM120 1 (by first | decide | omega | (dsimp only; omega))) 6).trans q1_6_M10
    have q11_5_M12 : id (M12 11 5 = M 11 5) := (congrFun (fM120 11 (by first | decide | omega | (dsimp only; omega))) 5).trans q11_5_M10
    have q10_2_M12 : id (M12 10 2 = M 10 2) := (congrFun (fM120 10 (by first | decide | omega | (dsimp only; omega))) 2).trans q10_2_M10
    have q10_4_M12 : id (M12 10 4 = M 10 4) := (congrFun (fM120 10 (by first | decide | omega | (dsimp only; omega))) 4).trans q10_4_M10
    have q10_6_M12 : id (M12 10 6 = M 10 6) := (congrFun (fM120 10 (by first | decide | omega | (dsimp only; omega))) 6).trans q10_6_M10
    have q20_5_M12 : id (M12 20 5 = M 20 5) := (congrFun (fM120 20 (by first | decide | omega | (dsimp only; omega))) 5).trans q20_5_M10
    have q19_2_M12 : id (M12 19 2 = M 19 2) := (congrFun (fM120 19 (by first | decide | omega | (dsimp only; omega))) 2).trans q19_2_M10
    have q19_4_M12 : id (M12 19 4 = M 19 4) := (congrFun (fM120 19 (by first | decide | omega | (dsimp only; omega))) 4).trans q19_4_M10
    have q19_6_M12 : id (M12 19 6 = M 19 6) := (congrFun (fM120 19 (by first | decide | omega | (dsimp only; omega))) 6).trans q19_6_M10
    have q29_0_M12 : id (M12 29 0 = M 29 0) := (congrFun (fM120 29 (by first | decide | omega | (dsimp only; omega))) 0).trans q29_0_M10
    have q29_1_M12 : id (M12 29 1 = M 29 1) := (congrFun (fM120 29 (by first | decide | omega | (dsimp only; omega))) 1).trans q29_1_M10
    have q0_11_M12 : id (M12 0 11 = M 0 11) := (congrFun (fM120 0 (by first | decide | omega | (dsimp only; omega))) 11).trans q0_11_M10
    have q0_12_M12 : id (M12 0 12 = M 0 12) := (congrFun (fM120 0 (by first | decide | omega | (dsimp only; omega))) 12).trans q0_12_M10
    have q0_13_M12 : id (M12 0 13 = M 0 13) := (congrFun (fM120 0 (by first | decide | omega | (dsimp only; omega))) 13).trans q0_13_M10
    have q0_10_M12 : id (M12 0 10 = M 0 10) := (congrFun (fM120 0 (by first | decide | omega | (dsimp only; omega))) 10).trans q0_10_M10
    obtain ⟨byM12, pnM12⟩ := pM12
    rw [show M10 31 1 = M 31 1 + 16 by omega] at byM12
    refine g_aload_n (pc' := 61) 0 dX9_feed_60 rfl rfl ?_
    refine g_getR (pc' := 64) dX9_feed_61 rfl f_X9_35 rfl rfl ?_
    refine g_getI (pc' := 67) dX9_feed_64 rfl f_X9_147 rfl rfl (fun v13 ev13 rv13 => ?_)
    have bv13 : 0 ≤ v13 ∧ v13 ≤ 400 := by rw [ev13]; exact iM12.2.2.1.1
    refine g_ireturn dX9_feed_67 ?_
    exact ⟨iM12, fM12, q2_5_M12, q1_2_M12, q1_4_M12, q1_6_M12, q11_5_M12, q10_2_M12, q10_4_M12, q10_6_M12, q20_5_M12, q19_2_M12, q19_4_M12, q19_6_M12, q29_0_M12, q29_1_M12, q0_11_M12, q0_12_M12, q0_13_M12, q0_10_M12, by omega, ⟨fun _ => ⟨M4 32, M6 32, M8 32, M10 32, byM4, byM6, byM8, byM10, byM12⟩, fun z => absurd z (by omega)⟩⟩
  · refine g_iconst (pc' := 17) dX9_feed_16 rfl ?_
    refine g_ireturn dX9_feed_17 ?_
    exact ⟨hi, Fr.rf, rfl, rfl, rfl, rfl, rfl, rfl, rfl, rfl, rfl, rfl, rfl, rfl, rfl, rfl, rfl, rfl, rfl, rfl, by omega, ⟨fun z => absurd z (by omega), fun _ => rfl⟩⟩
set_option maxHeartbeats 4000000 in
set_option maxRecDepth 100000 in
theorem l_X10_four_x_3 (X : Cx) (M : Mm) (hi : IM M) (a : Int) (ha : inI a) (hl : M 97 12 ≤ 396) : ∀ (kk : Nat) (s : Int) (M1 : Mm) (ic1 : IM M1) (fr1 : Fr (fun c => c = 97 ∨ c = 106) M M1) (q99_0 : (M1 99 0 = M 99 0)) (q99_1 : (M1 99 1 = M 99 1)) (q99_2 : (M1 99 2 = M 99 2)) (q99_3 : (M1 99 3 = M 99 3)) (q100_0 : id (M1 100 0 = M 100 0)) (q100_1 : id (M1 100 1 = M 100 1)) (q100_2 : id (M1 100 2 = M 100 2)) (q100_3 : id (M1 100 3 = M 100 3)) (q100_49 : id (M1 100 49 = M 100 49)) (q100_50 : id (M1 100 50 = M 100 50)) (q100_51 : id (M1 100 51 = M 100 51)) (q100_52 : id (M1 100 52 = M 100 52)) (q103_0 : id (M1 103 0 = M 103 0)) (q103_1 : id (M1 103 1 = M 103 1)) (q97_17 : (M1 97 17 = M 97 17)) (q97_33 : (M1 97 33 = M 97 33)) (q97_10 : (M1 97 10 = M 97 10)) (q97_44 : (M1 97 44 = M 97 44)) (q97_1 : (M1 97 1 = M 97 1)) (hs : s = 24 ∨ s = 16 ∨ s = 8 ∨ s = 0 ∨ s = -8) (ht : 8 * (M1 97 12 - M 97 12) = 24 - s) (by1 : BYp (M 106) (M1 106) (M 97 12) a s), (s + 8).toNat = kk → G X 0 RX10 cX10_four 3 none (Qv (fun M1 => IM M1 ∧ Fr (fun c => c = 97 ∨ c = 106) M M1 ∧ M1 99 0 = M 99 0 ∧ M1 99 1 = M 99 1 ∧ M1 99 2 = M 99 2 ∧ M1 99 3 = M 99 3 ∧ M1 100 0 = M 100 0 ∧ M1 100 1 = M 100 1 ∧ M1 100 2 = M 100 2 ∧ M1 100 3 = M 100 3 ∧ M1 100 49 = M 100 49 ∧ M1 100 50 = M 100 50 ∧ M1 100 51 = M 100 51 ∧ M1 100 52 = M 100 52 ∧ M1 103 0 = M 103 0 ∧ M1 103 1 = M 103 1 ∧ M1 97 17 = M 97 17 ∧ M1 97 33 = M 97 33 ∧ M1 97 10 = M 97 10 ∧ M1 97 44 = M 97 44 ∧ M1 97 1 = M 97 1 ∧ (BYT (M 106) (M1 106) (M 97 12) a ∧ M1 97 12 = M 97 12 + 4))) 3 [(2, vi s), (0, vr X 97), (1, vi a)] [] M1 := by
  intro kk
  induction kk using Nat.strongRecOn with
  | ind kk ih =>
    intro s M1 ic1 fr1 q99_0 q99_1 q99_2 q99_3 q100_0 q100_1 q100_2 q100_3 q100_49 q100_50 q100_51 q100_52 q103_0 q103_1 q97_17 q97_33 q97_10 q97_44 q97_1 hs ht by1 hmes
    have p0 := hi.1.1
    have p1 := hi.1.2.1
    have p2 := hi.1.2.2.1
    have p3 := hi.1.2.2.2.1
    have p12 := hi.2.2.2.1
    refine g_iload_n (pc' := 4) 0 dX10_four_3 rfl rfl ?_
    refine g_if_lt (pc' := 7) (tgt := 39) ⟨by omega, by omega⟩ dX10_four_4 rfl rfl (fun c1 => ?_) (fun c1 => ?_)
    · refine g_vreturn dX10_four_39 ?_
      exact ⟨ic1, fr1, q99_0, q99_1, q99_2, q99_3, q100_0, q100_1, q100_2, q100_3, q100_49, q100_50, q100_51, q100_52, q103_0, q103_1, q97_17, q97_33, q97_10, q97_44, q97_1, by1.e (by omega), by omega⟩
    · refine g_aload_n (pc' := 8) 1 dX10_four_7 rfl rfl ?_
      refine g_getR (pc' := 11) dX10_four_8 rfl f_X10_36 rfl rfl ?_
      refine g_aload_n (pc' := 12) 1 dX10_four_11 rfl rfl ?_
      refine g_getI (pc' := 15) dX10_four_12 rfl f_X10_142 rfl rfl (fun v2 ev2 rv2 => ?_)
      have bv2 : 0 ≤ v2 ∧ v2 ≤ 400 := by rw [ev2]; exact ic1.2.2.2.1
      refine g_iload_n (pc' := 16) 2 dX10_four_15 rfl rfl ?_
      refine g_iload_n (pc' := 17) 0 dX10_four_16 rfl rfl ?_
      refine g_ishr (pc' := 18) dX10_four_17 rfl (fun r3 => ?_)
      refine g_sipush (pc' := 21) (v := 255) dX10_four_18 rfl (by decide) ?_
      refine g_iand (pc' := 22) dX10_four_21 rfl (fun r4 => ?_)
      refine g_iast (pc' := 23) dX10_four_22 rfl rfl (by omega) (by omega) r4 (fun M5 hM5 => ?_)
      have iM5 : IM M5 := IM.wr ic1 hM5 (by unfold okv; first | decide | omega)
      have fM5 : Fr (fun c => c = 97 ∨ c = 106) M M5 := Fr.wr fr1 hM5 (by first | decide | omega | (dsimp only; omega))
      have q99_0_M5 : (M5 99 0 = M 99 0) := (show M5 99 0 = M1 99 0 by rw [hM5]; exact mu_ne _ _ (by first | decide | omega)).trans q99_0
      have q99_1_M5 : (M5 99 1 = M 99 1) := (show M5 99 1 = M1 99 1 by rw [hM5]; exact mu_ne _ _ (by first | decide | omega)).trans q99_1
      have q99_2_M5 : (M5 99 2 = M 99 2) := (show M5 99 2 = M1 99 2 by rw [hM5]; exact mu_ne _ _ (by first | decide | omega)).trans q99_2
      have q99_3_M5 : (M5 99 3 = M 99 3) := (show M5 99 3 = M1 99 3 by rw [hM5]; exact mu_ne _ _ (by first | decide | omega)).trans q99_3
      have q100_0_M5 : id (M5 100 0 = M 100 0) := (show M5 100 0 = M1 100 0 by rw [hM5]; exact mu_ne _ _ (by first | decide | omega)).trans q100_0
      have q100_1_M5 : id (M5 100 1 = M 100 1) := (show M5 100 1 = M1 100 1 by rw [hM5]; exact mu_ne _ _ (by first | decide | omega)).trans q100_1
      have q100_2_M5 : id (M5 100 2 = M 100 2) := (show M5 100 2 = M1 100 2 by rw [hM5]; exact mu_ne _ _ (by first | decide | omega)).trans q100_2
      have q100_3_M5 : id (M5 100 3 = M 100 3) := (show M5 100 3 = M1 100 3 by rw [hM5]; exact mu_ne _ _ (by first | decide | omega)).trans q100_3
      have q100_49_M5 : id (M5 100 49 = M 100 49) := (show M5 100 49 = M1 100 49 by rw [hM5]; exact mu_ne _ _ (by first | decide | omega)).trans q100_49
      have q100_50_M5 : id (M5 100 50 = M 100 50) := (show M5 100 50 = M1 100 50 by rw [hM5]; exact mu_ne _ _ (by first | decide | omega)).trans q100_50
      have q100_51_M5 : id (M5 100 51 = M 100 51) := (show M5 100 51 = M1 100 51 by rw [hM5]; exact mu_ne _ _ (by first | decide | omega)).trans q100_51
      have q100_52_M5 : id (M5 100 52 = M 100 52) := (show M5 100 52 = M1 100 52 by rw [hM5]; exact mu_ne _ _ (by first | decide | omega)).trans q100_52
      have q103_0_M5 : id (M5 103 0 = M 103 0) := (show M5 103 0 = M1 103 0 by rw [hM5]; exact mu_ne _ _ (by first | decide | omega)).trans q103_0
      have q103_1_M5 : id (M5 103 1 = M 103 1) := (show M5 103 1 = M1 103 1 by rw [hM5]; exact mu_ne _ _ (by first | decide | omega)).trans q103_1
      have q97_17_M5 : (M5 97 17 = M 97 17) := (show M5 97 17 = M1 97 17 by rw [hM5]; exact mu_ne _ _ (by first | decide | omega)).trans q97_17
      have q97_33_M5 : (M5 97 33 = M 97 33) := (show M5 97 33 = M1 97 33 by rw [hM5]; exact mu_ne _ _ (by first | decide | omega)).trans q97_33
      have q97_10_M5 : (M5 97 10 = M 97 10) := (show M5 97 10 = M1 97 10 by rw [hM5]; exact mu_ne _ _ (by first | decide | omega)).trans q97_10
      have q97_44_M5 : (M5 97 44 = M 97 44) := (show M5 97 44 = M1 97 44 by rw [hM5]; exact mu_ne _ _ (by first | decide | omega)).trans q97_44
      have q97_1_M5 : (M5 97 1 = M 97 1) := (show M5 97 1 = M1 97 1 by rw [hM5]; exact mu_ne _ _ (by first | decide | omega)).trans q97_1
      have wM5_97_12 : M5 97 12 = M1 97 12 := by rw [hM5]; exact mu_ne _ _ (by first | decide | omega)
      have byM5 : BYp (M 106) (M5 106) (M 97 12) a (s + -8) := BYp.s by1 (by omega) (by omega) (by omega) (show M5 106 = ms (M1 106) (M1 97 12).toNat (oand (oshr a s) 255) by rw [hM5, mu_is]; first | rfl | (congr 1; omega) | (congr 2; omega))
      refine g_aload_n (pc' := 24) 1 dX10_four_23 rfl rfl ?_
      refine g_dup (pc' := 25) dX10_four_24 rfl rfl ?_
      refine g_getI (pc' := 28) dX10_four_25 rfl f_X10_142 rfl rfl (fun v6 ev6 rv6 => ?_)
      have bv6 : 0 ≤ v6 ∧ v6 ≤ 400 := by rw [ev6]; exact iM5.2.2.2.1
      refine g_iconst (pc' := 29) dX10_four_28 rfl ?_
      refine g_iadd (pc' := 30) dX10_four_29 rfl ?_
      refine g_putI (pc' := 33) dX10_four_30 rfl p_X10_142 rfl rfl ⟨by omega, by omega⟩ (fun M7 hM7 => ?_)
      have iM7 : IM M7 := IM.wr iM5 hM7 (by unfold okv; first | decide | omega)
      have fM7 : Fr (fun c => c = 97 ∨ c = 106) M M7 := Fr.wr fM5 hM7 (by first | decide | omega | (dsimp only; omega))
      have q99_0_M7 : (M7 99 0 = M 99 0) := (show M7 99 0 = M5 99 0 by rw [hM7]; exact mu_ne _ _ (by first | decide | omega)).trans q99_0_M5
      have q99_1_M7 : (M7 99 1 = M 99 1) := (show M7 99 1 = M5 99 1 by rw [hM7]; exact mu_ne _ _ (by first | decide | omega)).trans q99_1_M5
      have q99_2_M7 : (M7 99 2 = M 99 2) := (show M7 99 2 = M5 99 2 by rw [hM7]; exact mu_ne _ _ (by first | decide | omega)).trans q99_2_M5
      have q99_3_M7 : (M7 99 3 = M 99 3) := (show M7 99 3 = M5 99 3 by rw [hM7]; exact mu_ne _ _ (by first | decide | omega)).trans q99_3_M5
      have q100_0_M7 : id (M7 100 0 = M 100 0) := (show M7 100 0 = M5 100 0 by rw [hM7]; exact mu_ne _ _ (by first | decide | omega)).trans q100_0_M5
      have q100_1_M7 : id (M7 100 1 = M 100 1) := (show M7 100 1 = M5 100 1 by rw [hM7]; exact mu_ne _ _ (by first | decide | omega)).trans q100_1_M5
      have q100_2_M7 : id (M7 100 2 = M 100 2) := (show M7 100 2 = M5 100 2 by rw [hM7]; exact mu_ne _ _ (by first | decide | omega)).trans q100_2_M5
      have q100_3_M7 : id (M7 100 3 = M 100 3) := (show M7 100 3 = M5 100 3 by rw [hM7]; exact mu_ne _ _ (by first | decide | omega)).trans q100_3_M5
      have q100_49_M7 : id (M7 100 49 = M 100 49) := (show M7 100 49 = M5 100 49 by rw [hM7]; exact mu_ne _ _ (by first | decide | omega)).trans q100_49_M5
      have q100_50_M7 : id (M7 100 50 = M 100 50) := (show M7 100 50 = M5 100 50 by rw [hM7]; exact mu_ne _ _ (by first | decide | omega)).trans q100_50_M5
      have q100_51_M7 : id (M7 100 51 = M 100 51) := (show M7 100 51 = M5 100 51 by rw [hM7]; exact mu_ne _ _ (by first | decide | omega)).trans q100_51_M5
      have q100_52_M7 : id (M7 100 52 = M 100 52) := (show M7 100 52 = M5 100 52 by rw [hM7]; exact mu_ne _ _ (by first | decide | omega)).trans q100_52_M5
      have q103_0_M7 : id (M7 103 0 = M 103 0) := (show M7 103 0 = M5 103 0 by rw [hM7]; exact mu_ne _ _ (by first | decide | omega)).trans q103_0_M5
      have q103_1_M7 : id (M7 103 1 = M 103 1) := (show M7 103 1 = M5 103 1 by rw [hM7]; exact mu_ne _ _ (by first | decide | omega)).trans q103_1_M5
      have q97_17_M7 : (M7 97 17 = M 97 17) := (show M7 97 17 = M5 97 17 by rw [hM7]; exact mu_ne _ _ (by first | decide | omega)).trans q97_17_M5
      have q97_33_M7 : (M7 97 33 = M 97 33) := (show M7 97 33 = M5 97 33 by rw [hM7]; exact mu_ne _ _ (by first | decide | omega)).trans q97_33_M5
      have q97_10_M7 : (M7 97 10 = M 97 10) := (show M7 97 10 = M5 97 10 by rw [hM7]; exact mu_ne _ _ (by first | decide | omega)).trans q97_10_M5
      have q97_44_M7 : (M7 97 44 = M 97 44) := (show M7 97 44 = M5 97 44 by rw [hM7]; exact mu_ne _ _ (by first | decide | omega)).trans q97_44_M5
      have q97_1_M7 : (M7 97 1 = M 97 1) := (show M7 97 1 = M5 97 1 by rw [hM7]; exact mu_ne _ _ (by first | decide | omega)).trans q97_1_M5
      have xM7_97_12 : M7 97 12 = v6 + 1 := by rw [hM7]; exact mu_at _ _ _ _
      have byM7 : BYp (M 106) (M7 106) (M 97 12) a (s + -8) := by rw [hM7, mu_cell _ _ (by decide)]; exact byM5
      refine g_iinc (pc' := 36) (L' := [(2, vi (s + (-8))), (0, vr X 97), (1, vi a)]) 0 dX10_four_33 rfl rfl (by decide) rfl ?_
      refine g_goto (tgt := 3) dX10_four_36 rfl ?_
      refine g_sub [0, 1, 2] rfl ?_
      exact ih _ (by omega) (s + (-8)) M7 iM7 fM7 q99_0_M7 q99_1_M7 q99_2_M7 q99_3_M7 q100_0_M7 q100_1_M7 q100_2_M7 q100_3_M7 q100_49_M7 q100_50_M7 q100_51_M7 q100_52_M7 q103_0_M7 q103_1_M7 q97_17_M7 q97_33_M7 q97_10_M7 q97_44_M7 q97_1_M7 (by omega) (by omega) byM7 rfl
set_option maxHeartbeats 4000000 in
set_option maxRecDepth 100000 in
theorem c_X10_four_x (X : Cx) (M : Mm) (hi : IM M) (a : Int) (ha : inI a) (hl : M 97 12 ≤ 396) : Con X 0 yX10_four cX10_four 3 none [vr X 97, vi a] M (Qv (fun M1 => IM M1 ∧ Fr (fun c => c = 97 ∨ c = 106) M M1 ∧ M1 99 0 = M 99 0 ∧ M1 99 1 = M 99 1 ∧ M1 99 2 = M 99 2 ∧ M1 99 3 = M 99 3 ∧ M1 100 0 = M 100 0 ∧ M1 100 1 = M 100 1 ∧ M1 100 2 = M 100 2 ∧ M1 100 3 = M 100 3 ∧ M1 100 49 = M 100 49 ∧ M1 100 50 = M 100 50 ∧ M1 100 51 = M 100 51 ∧ M1 100 52 = M 100 52 ∧ M1 103 0 = M 103 0 ∧ M1 103 1 = M 103 1 ∧ M1 97 17 = M 97 17 ∧ M1 97 33 = M 97 33 ∧ M1 97 10 = M 97 10 ∧ M1 97 44 = M 97 44 ∧ M1 97 1 = M 97 1 ∧ (BYT (M 106) (M1 106) (M 97 12) a ∧ M1 97 12 = M 97 12 + 4))) := by
  refine Con.ofG rfl (Nat.le_of_ble_eq_true rfl) ?_
  show G X 0 RX10 cX10_four 3 none (Qv (fun M1 => IM M1 ∧ Fr (fun c => c = 97 ∨ c = 106) M M1 ∧ M1 99 0 = M 99 0 ∧ M1 99 1 = M 99 1 ∧ M1 99 2 = M 99 2 ∧ M1 99 3 = M 99 3 ∧ M1 100 0 = M 100 0 ∧ M1 100 1 = M 100 1 ∧ M1 100 2 = M 100 2 ∧ M1 100 3 = M 100 3 ∧ M1 100 49 = M 100 49 ∧ M1 100 50 = M 100 50 ∧ M1 100 51 = M 100 51 ∧ M1 100 52 = M 100 52 ∧ M1 103 0 = M 103 0 ∧ M1 103 1 = M 103 1 ∧ M1 97 17 = M 97 17 ∧ M1 97 33 = M 97 33 ∧ M1 97 10 = M 97 10 ∧ M1 97 44 = M 97 44 ∧ M1 97 1 = M 97 1 ∧ (BYT (M 106) (M1 106) (M 97 12) a ∧ M1 97 12 = M 97 12 + 4))) 0 [(0, vr X 97), (1, vi a)] [] M
  have p0 := hi.1.1
  have p1 := hi.1.2.1
  have p2 := hi.1.2.2.1
  have p3 := hi.1.2.2.2.1
  have p12 := hi.2.2.2.1
  refine g_bipush (pc' := 2) (v := 24) dX10_four_0 rfl (by decide) ?_
  refine g_istore_n (pc' := 3) (i := 2) (L' := [(2, vi 24), (0, vr X 97), (1, vi a)]) dX10_four_2 rfl rfl (by decide) rfl ?_
  refine g_sub [0, 1, 2] rfl ?_
  exact l_X10_four_x_3 X M hi a ha hl _ 24 M hi Fr.rf rfl rfl rfl rfl rfl rfl rfl rfl rfl rfl rfl rfl rfl rfl rfl rfl rfl rfl rfl (by omega) (by omega) (BYp.z _ _ _) rfl
set_option maxHeartbeats 4000000 in
set_option maxRecDepth 100000 in
theorem c_X10_feed_x (X : Cx) (M : Mm) (hi : IM M) (a : Int) (ha : inI a) (b : Int) (hb : inI b) (c : Int) (hc : inI c) (e1 : Int) (he1 : inI e1) (e2 : Int) (he2 : inI e2) : Con X 12 yX10_feed cX10_feed 6 (some .int) [vr X 97, vi a, vi b, vi c, vi e1, vi e2] M (Qi (fun r M1 => IM M1 ∧ Fr (fun c => c = 97 ∨ c = 106) M M1 ∧ M1 99 0 = M 99 0 ∧ M1 99 1 = M 99 1 ∧ M1 99 2 = M 99 2 ∧ M1 99 3 = M 99 3 ∧ M1 100 0 = M 100 0 ∧ M1 100 1 = M 100 1 ∧ M1 100 2 = M 100 2 ∧ M1 100 3 = M 100 3 ∧ M1 100 49 = M 100 49 ∧ M1 100 50 = M 100 50 ∧ M1 100 51 = M 100 51 ∧ M1 100 52 = M 100 52 ∧ M1 103 0 = M 103 0 ∧ M1 103 1 = M 103 1 ∧ M1 97 17 = M 97 17 ∧ M1 97 33 = M 97 33 ∧ M1 97 10 = M 97 10 ∧ M1 97 44 = M 97 44 ∧ M1 97 1 = M 97 1 ∧ (((M 97 12 ≤ 380 → r = M 97 12 + 20 ∧ M1 97 12 = M 97 12 + 20) ∧ (380 < M 97 12 → r = -1 ∧ M1 97 12 = M 97 12)) ∧ FEX (M 106) (M1 106) (M 97 12) a b c e1 e2))) := by
  refine Con.ofG rfl (Nat.le_of_ble_eq_true rfl) ?_
  show G X 12 RX10 cX10_feed 6 (some .int) (Qi (fun r M1 => IM M1 ∧ Fr (fun c => c = 97 ∨ c = 106) M M1 ∧ M1 99 0 = M 99 0 ∧ M1 99 1 = M 99 1 ∧ M1 99 2 = M 99 2 ∧ M1 99 3 = M 99 3 ∧ M1 100 0 = M 100 0 ∧ M1 100 1 = M 100 1 ∧ M1 100 2 = M 100 2 ∧ M1 100 3 = M 100 3 ∧ M1 100 49 = M 100 49 ∧ M1 100 50 = M 100 50 ∧ M1 100 51 = M 100 51 ∧ M1 100 52 = M 100 52 ∧ M1 103 0 = M 103 0 ∧ M1 103 1 = M 103 1 ∧ M1 97 17 = M 97 17 ∧ M1 97 33 = M 97 33 ∧ M1 97 10 = M 97 10 ∧ M1 97 44 = M 97 44 ∧ M1 97 1 = M 97 1 ∧ (((M 97 12 ≤ 380 → r = M 97 12 + 20 ∧ M1 97 12 = M 97 12 + 20) ∧ (380 < M 97 12 → r = -1 ∧ M1 97 12 = M 97 12)) ∧ FEX (M 106) (M1 106) (M 97 12) a b c e1 e2))) 0 [(0, vr X 97), (1, vi a), (2, vi b), (3, vi c), (4, vi e1), (5, vi e2)] [] M
  have p0 := hi.1.1
  have p1 := hi.1.2.1
  have p2 := hi.1.2.2.1
  have p3 := hi.1.2.2.2.1
  have p12 := hi.2.2.2.1
  refine g_aload_n (pc' := 1) 0 dX10_feed_0 rfl rfl ?_
  refine g_iconst (pc' := 2) dX10_feed_1 rfl ?_
  refine g_putI (pc' := 5) dX10_feed_2 rfl p_X10_77 rfl rfl (by decide) (fun M1 hM1 => ?_)
  have iM1 : IM M1 := IM.wr hi hM1 (by unfold okv; first | decide | omega)
  have fM1 : Fr (fun c => c = 97 ∨ c = 106) M M1 := Fr.wr Fr.rf hM1 (by first | decide | omega | (dsimp only; omega))
  have q99_0_M1 : (M1 99 0 = M 99 0) := (show M1 99 0 = M 99 0 by rw [hM1]; exact mu_ne _ _ (by first | decide | omega))
  have q99_1_M1 : (M1 99 1 = M 99 1) := (show M1 99 1 = M 99 1 by rw [hM1]; exact mu_ne _ _ (by first | decide | omega))
  have q99_2_M1 : (M1 99 2 = M 99 2) := (show M1 99 2 = M 99 2 by rw [hM1]; exact mu_ne _ _ (by first | decide | omega))
  have q99_3_M1 : (M1 99 3 = M 99 3) := (show M1 99 3 = M 99 3 by rw [hM1]; exact mu_ne _ _ (by first | decide | omega))
  have q100_0_M1 : id (M1 100 0 = M 100 0) := (show M1 100 0 = M 100 0 by rw [hM1]; exact mu_ne _ _ (by first | decide | omega))
  have q100_1_M1 : id (M1 100 1 = M 100 1) := (show M1 100 1 = M 100 1 by rw [hM1]; exact mu_ne _ _ (by first | decide | omega))
  have q100_2_M1 : id (M1 100 2 = M 100 2) := (show M1 100 2 = M 100 2 by rw [hM1]; exact mu_ne _ _ (by first | decide | omega))
  have q100_3_M1 : id (M1 100 3 = M 100 3) := (show M1 100 3 = M 100 3 by rw [hM1]; exact mu_ne _ _ (by first | decide | omega))
  have q100_49_M1 : id (M1 100 49 = M 100 49) := (show M1 100 49 = M 100 49 by rw [hM1]; exact mu_ne _ _ (by first | decide | omega))
  have q100_50_M1 : id (M1 100 50 = M 100 50) := (show M1 100 50 = M 100 50 by rw [hM1]; exact mu_ne _ _ (by first | decide | omega))
  have q100_51_M1 : id (M1 100 51 = M 100 51) := (show M1 100 51 = M 100 51 by rw [hM1]; exact mu_ne _ _ (by first | decide | omega))
  have q100_52_M1 : id (M1 100 52 = M 100 52) := (show M1 100 52 = M 100 52 by rw [hM1]; exact mu_ne _ _ (by first | decide | omega))
  have q103_0_M1 : id (M1 103 0 = M 103 0) := (show M1 103 0 = M 103 0 by rw [hM1]; exact mu_ne _ _ (by first | decide | omega))
  have q103_1_M1 : id (M1 103 1 = M 103 1) := (show M1 103 1 = M 103 1 by rw [hM1]; exact mu_ne _ _ (by first | decide | omega))
  have q97_17_M1 : (M1 97 17 = M 97 17) := (show M1 97 17 = M 97 17 by rw [hM1]; exact mu_ne _ _ (by first | decide | omega))
  have q97_33_M1 : (M1 97 33 = M 97 33) := (show M1 97 33 = M 97 33 by rw [hM1]; exact mu_ne _ _ (by first | decide | omega))
  have q97_10_M1 : (M1 97 10 = M 97 10) := (show M1 97 10 = M 97 10 by rw [hM1]; exact mu_ne _ _ (by first | decide | omega))
  have q97_44_M1 : (M1 97 44 = M 97 44) := (show M1 97 44 = M 97 44 by rw [hM1]; exact mu_ne _ _ (by first | decide | omega))
  have q97_1_M1 : (M1 97 1 = M 97 1) := (show M1 97 1 = M 97 1 by rw [hM1]; exact mu_ne _ _ (by first | decide | omega))
  have q97_12_M1 : (M1 97 12 = M 97 12) := (show M1 97 12 = M 97 12 by rw [hM1]; exact mu_ne _ _ (by first | decide | omega))
  have wM1_97_12 : M1 97 12 = M 97 12 := by rw [hM1]; exact mu_ne _ _ (by first | decide | omega)
  have xM1_97_0 : M1 97 0 = 0 := by rw [hM1]; exact mu_at _ _ _ _
  refine g_aload_n (pc' := 6) 0 dX10_feed_5 rfl rfl ?_
  refine g_getI (pc' := 9) dX10_feed_6 rfl f_X10_142 rfl rfl (fun v2 ev2 rv2 => ?_)
  have bv2 : 0 ≤ v2 ∧ v2 ≤ 400 := by rw [ev2]; exact iM1.2.2.2.1
  have av2 : v2 = M 97 12 := ev2.trans q97_12_M1
  refine g_bipush (pc' := 11) (v := 20) dX10_feed_9 rfl (by decide) ?_
  refine g_iadd (pc' := 12) dX10_feed_11 rfl ?_
  refine g_sipush (pc' := 15) (v := 400) dX10_feed_12 rfl (by decide) ?_
  refine g_ic_le (pc' := 18) (tgt := 20) ⟨by omega, by omega⟩ (by decide) dX10_feed_15 rfl rfl (fun c3 => ?_) (fun c3 => ?_)
  · refine g_aload_n (pc' := 21) 0 dX10_feed_20 rfl rfl ?_
    refine g_iload_n (pc' := 22) 1 dX10_feed_21 rfl rfl ?_
    refine g_callVv (pc' := 25) (As := [vi a]) (b := 97) (S := []) dX10_feed_22 rfl m_X10_148 w_X10_four (c_X10_four_x X M1 iM1 a ha (by omega)) rfl ⟨_, _, _, rfl, rfl, rfl⟩ (by decide) (by decide) rfl (Nat.le_of_ble_eq_true rfl) (fun M5 q4 => ?_)
    obtain ⟨iM5, fM50, eM5_99_0, eM5_99_1, eM5_99_2, eM5_99_3, eM5_100_0, eM5_100_1, eM5_100_2, eM5_100_3, eM5_100_49, eM5_100_50, eM5_100_51, eM5_100_52, eM5_103_0, eM5_103_1, eM5_97_17, eM5_97_33, eM5_97_10, eM5_97_44, eM5_97_1, pM5⟩ := q4
    have fM5 : Fr (fun c => c = 97 ∨ c = 106) M M5 := Fr.tr fM1 fM50 (fun _ z => z)
    have q99_0_M5 : (M5 99 0 = M 99 0) := eM5_99_0.trans q99_0_M1
    have q99_1_M5 : (M5 99 1 = M 99 1) := eM5_99_1.trans q99_1_M1
    have q99_2_M5 : (M5 99 2 = M 99 2) := eM5_99_2.trans q99_2_M1
    have q99_3_M5 : (M5 99 3 = M 99 3) := eM5_99_3.trans q99_3_M1
    have q100_0_M5 : id (M5 100 0 = M 100 0) := eM5_100_0.trans q100_0_M1
    have q100_1_M5 : id (M5 100 1 = M 100 1) := eM5_100_1.trans q100_1_M1
    have q100_2_M5 : id (M5 100 2 = M 100 2) := eM5_100_2.trans q100_2_M1
    have q100_3_M5 : id (M5 100 3 = M 100 3) := eM5_100_3.trans q100_3_M1
    have q100_49_M5 : id (M5 100 49 = M 100 49) := eM5_100_49.trans q100_49_M1
    have q100_50_M5 : id (M5 100 50 = M 100 50) := eM5_100_50.trans q100_50_M1
    have q100_51_M5 : id (M5 100 51 = M 100 51) := eM5_100_51.trans q100_51_M1
    have q100_52_M5 : id (M5 100 52 = M 100 52) := eM5_100_52.trans q100_52_M1
    have q103_0_M5 : id (M5 103 0 = M 103 0) := eM5_103_0.trans q103_0_M1
    have q103_1_M5 : id (M5 103 1 = M 103 1) := eM5_103_1.trans q103_1_M1
    have q97_17_M5 : (M5 97 17 = M 97 17) := eM5_97_17.trans q97_17_M1
    have q97_33_M5 : (M5 97 33 = M 97 33) := eM5_97_33.trans q97_33_M1
    have q97_10_M5 : (M5 97 10 = M 97 10) := eM5_97_10.trans q97_10_M1
    have q97_44_M5 : (M5 97 44 = M 97 44) := eM5_97_44.trans q97_44_M1
    have q97_1_M5 : (M5 97 1 = M 97 1) := eM5_97_1.trans q97_1_M1
    clear eM5_100_0 eM5_100_1 eM5_100_2 eM5_100_3 eM5_100_49 eM5_100_50 eM5_100_51 eM5_100_52 eM5_103_0 eM5_103_1
    obtain ⟨byM5, pnM5⟩ := pM5
    rw [show M1 97 12 = M 97 12 + 0 by omega] at byM5
    rw [show M1 106 = M 106 from (show Fr (fun c => c = 97) M M1 from fun q hq => by rw [hM1]; exact mu_cell _ _ hq) 106 (by decide), Int.add_zero] at byM5
    refine g_aload_n (pc' := 26) 0 dX10_feed_25 rfl rfl ?_
    refine g_iload_n (pc' := 27) 2 dX10_feed_26 rfl rfl ?_
    refine g_callVv (pc' := 30) (As := [vi b]) (b := 97) (S := []) dX10_feed_27 rfl m_X10_148 w_X10_four (c_X10_four_x X M5 iM5 b hb (by omega)) rfl ⟨_, _, _, rfl, rfl, rfl⟩ (by decide) (by decide) rfl (Nat.le_of_ble_eq_true rfl) (fun M7 q6 => ?_)
    obtain ⟨iM7, fM70, eM7_99_0, eM7_99_1, eM7_99_2, eM7_99_3, eM7_100_0, eM7_100_1, eM7_100_2, eM7_100_3, eM7_100_49, eM7_100_50, eM7_100_51, eM7_100_52, eM7_103_0, eM7_103_1, eM7_97_17, eM7_97_33, eM7_97_10, eM7_97_44, eM7_97_1, pM7⟩ := q6
    have fM7 : Fr (fun c => c = 97 ∨ c = 106) M M7 := Fr.tr fM5 fM70 (fun _ z => z)
    have q99_0_M7 : (M7 99 0 = M 99 0) := eM7_99_0.trans q99_0_M5
    have q99_1_M7 : (M7 99 1 = M 99 1) := eM7_99_1.trans q99_1_M5
    have q99_2_M7 : (M7 99 2 = M 99 2) := eM7_99_2.trans q99_2_M5
    have q99_3_M7 : (M7 99 3 = M 99 3) := eM7_99_3.trans q99_3_M5
    have q100_0_M7 : id (M7 100 0 = M 100 0) := eM7_100_0.trans q100_0_M5
    have q100_1_M7 : id (M7 100 1 = M 100 1) := eM7_100_1.trans q100_1_M5
    have q100_2_M7 : id (M7 100 2 = M 100 2) := eM7_100_2.trans q100_2_M5
    have q100_3_M7 : id (M7 100 3 = M 100 3) := eM7_100_3.trans q100_3_M5
    have q100_49_M7 : id (M7 100 49 = M 100 49) := eM7_100_49.trans q100_49_M5
    have q100_50_M7 : id (M7 100 50 = M 100 50) := eM7_100_50.trans q100_50_M5
    have q100_51_M7 : id (M7 100 51 = M 100 51) := eM7_100_51.trans q100_51_M5
    have q100_52_M7 : id (M7 100 52 = M 100 52) := eM7_100_52.trans q100_52_M5
    have q103_0_M7 : id (M7 103 0 = M 103 0) := eM7_103_0.trans q103_0_M5
    have q103_1_M7 : id (M7 103 1 = M 103 1) := eM7_103_1.trans q103_1_M5
    have q97_17_M7 : (M7 97 17 = M 97 17) := eM7_97_17.trans q97_17_M5
    have q97_33_M7 : (M7 97 33 = M 97 33) := eM7_97_33.trans q97_33_M5
    have q97_10_M7 : (M7 97 10 = M 97 10) := eM7_97_10.trans q97_10_M5
    have q97_44_M7 : (M7 97 44 = M 97 44) := eM7_97_44.trans q97_44_M5
    have q97_1_M7 : (M7 97 1 = M 97 1) := eM7_97_1.trans q97_1_M5
    clear eM7_100_0 eM7_100_1 eM7_100_2 eM7_100_3 eM7_100_49 eM7_100_50 eM7_100_51 eM7_100_52 eM7_103_0 eM7_103_1
    obtain ⟨byM7, pnM7⟩ := pM7
    rw [show M5 97 12 = M 97 12 + 4 by omega] at byM7
    refine g_aload_n (pc' := 31) 0 dX10_feed_30 rfl rfl ?_
    refine g_iload_n (pc' := 32) 3 dX10_feed_31 rfl rfl ?_
    refine g_callVv (pc' := 35) (As := [vi c]) (b := 97) (S := []) dX10_feed_32 rfl m_X10_148 w_X10_four (c_X10_four_x X M7 iM7 c hc (by omega)) rfl ⟨_, _, _, rfl, rfl, rfl⟩ (by decide) (by decide) rfl (Nat.le_of_ble_eq_true rfl) (fun M9 q8 => ?_)
    obtain ⟨iM9, fM90, eM9_99_0, eM9_99_1, eM9_99_2, eM9_99_3, eM9_100_0, eM9_100_1, eM9_100_2, eM9_100_3, eM9_100_49, eM9_100_50, eM9_100_51, eM9_100_52, eM9_103_0, eM9_103_1, eM9_97_17, eM9_97_33, eM9_97_10, eM9_97_44, eM9_97_1, pM9⟩ := q8
    have fM9 : Fr (fun c => c = 97 ∨ c = 106) M M9 := Fr.tr fM7 fM90 (fun _ z => z)
    have q99_0_M9 : (M9 99 0 = M 99 0) := eM9_99_0.trans q99_0_M7
    have q99_1_M9 : (M9 99 1 = M 99 1) := eM9_99_1.trans q99_1_M7
    have q99_2_M9 : (M9 99 2 = M 99 2) := eM9_99_2.trans q99_2_M7
    have q99_3_M9 : (M9 99 3 = M 99 3) := eM9_99_3.trans q99_3_M7
    have q100_0_M9 : id (M9 100 0 = M 100 0) := eM9_100_0.trans q100_0_M7
    have q100_1_M9 : id (M9 100 1 = M 100 1) := eM9_100_1.trans q100_1_M7
    have q100_2_M9 : id (M9 100 2 = M 100 2) := eM9_100_2.trans q100_2_M7
    have q100_3_M9 : id (M9 100 3 = M 100 3) := eM9_100_3.trans q100_3_M7
    have q100_49_M9 : id (M9 100 49 = M 100 49) := eM9_100_49.trans q100_49_M7
    have q100_50_M9 : id (M9 100 50 = M 100 50) := eM9_100_50.trans q100_50_M7
    have q100_51_M9 : id (M9 100 51 = M 100 51) := eM9_100_51.trans q100_51_M7
    have q100_52_M9 : id (M9 100 52 = M 100 52) := eM9_100_52.trans q100_52_M7
    have q103_0_M9 : id (M9 103 0 = M 103 0) := eM9_103_0.trans q103_0_M7
    have q103_1_M9 : id (M9 103 1 = M 103 1) := eM9_103_1.trans q103_1_M7
    have q97_17_M9 : (M9 97 17 = M 97 17) := eM9_97_17.trans q97_17_M7
    have q97_33_M9 : (M9 97 33 = M 97 33) := eM9_97_33.trans q97_33_M7
    have q97_10_M9 : (M9 97 10 = M 97 10) := eM9_97_10.trans q97_10_M7
    have q97_44_M9 : (M9 97 44 = M 97 44) := eM9_97_44.trans q97_44_M7
    have q97_1_M9 : (M9 97 1 = M 97 1) := eM9_97_1.trans q97_1_M7
    clear eM9_100_0 eM9_100_1 eM9_100_2 eM9_100_3 eM9_100_49 eM9_100_50 eM9_100_51 eM9_100_52 eM9_103_0 eM9_103_1
    obtain ⟨byM9, pnM9⟩ := pM9
    rw [show M7 97 12 = M 97 12 + 8 by omega] at byM9
    refine g_aload_n (pc' := 36) 0 dX10_feed_35 rfl rfl ?_
    refine g_iload (pc' := 38) 4 dX10_feed_36 rfl rfl ?_
    refine g_callVv (pc' := 41) (As := [vi e1]) (b := 97) (S := []) dX10_feed_38 rfl m_X10_148 w_X10_four (c_X10_four_x X M9 iM9 e1 he1 (by omega)) rfl ⟨_, _, _, rfl, rfl, rfl⟩ (by decide) (by decide) rfl (Nat.le_of_ble_eq_true rfl) (fun M11 q10 => ?_)
    obtain ⟨iM11, fM110, eM11_99_0, eM11_99_1, eM11_99_2, eM11_99_3, eM11_100_0, eM11_100_1, eM11_100_2, eM11_100_3, eM11_100_49, eM11_100_50, eM11_100_51, eM11_100_52, eM11_103_0, eM11_103_1, eM11_97_17, eM11_97_33, eM11_97_10, eM11_97_44, eM11_97_1, pM11⟩ := q10
    have fM11 : Fr (fun c => c = 97 ∨ c = 106) M M11 := Fr.tr fM9 fM110 (fun _ z => z)
    have q99_0_M11 : (M11 99 0 = M 99 0) := eM11_99_0.trans q99_0_M9
    have q99_1_M11 : (M11 99 1 = M 99 1) := eM11_99_1.trans q99_1_M9
    have q99_2_M11 : (M11 99 2 = M 99 2) := eM11_99_2.trans q99_2_M9
    have q99_3_M11 : (M11 99 3 = M 99 3) := eM11_99_3.trans q99_3_M9
    have q100_0_M11 : id (M11 100 0 = M 100 0) := eM11_100_0.trans q100_0_M9
    have q100_1_M11 : id (M11 100 1 = M 100 1) := eM11_100_1.trans q100_1_M9
    have q100_2_M11 : id (M11 100 2 = M 100 2) := eM11_100_2.trans q100_2_M9
    have q100_3_M11 : id (M11 100 3 = M 100 3) := eM11_100_3.trans q100_3_M9
    have q100_49_M11 : id (M11 100 49 = M 100 49) := eM11_100_49.trans q100_49_M9
    have q100_50_M11 : id (M11 100 50 = M 100 50) := eM11_100_50.trans q100_50_M9
    have q100_51_M11 : id (M11 100 51 = M 100 51) := eM11_100_51.trans q100_51_M9
    have q100_52_M11 : id (M11 100 52 = M 100 52) := eM11_100_52.trans q100_52_M9
    have q103_0_M11 : id (M11 103 0 = M 103 0) := eM11_103_0.trans q103_0_M9
    have q103_1_M11 : id (M11 103 1 = M 103 1) := eM11_103_1.trans q103_1_M9
    have q97_17_M11 : (M11 97 17 = M 97 17) := eM11_97_17.trans q97_17_M9
    have q97_33_M11 : (M11 97 33 = M 97 33) := eM11_97_33.trans q97_33_M9
    have q97_10_M11 : (M11 97 10 = M 97 10) := eM11_97_10.trans q97_10_M9
    have q97_44_M11 : (M11 97 44 = M 97 44) := eM11_97_44.trans q97_44_M9
    have q97_1_M11 : (M11 97 1 = M 97 1) := eM11_97_1.trans q97_1_M9
    clear eM11_100_0 eM11_100_1 eM11_100_2 eM11_100_3 eM11_100_49 eM11_100_50 eM11_100_51 eM11_100_52 eM11_103_0 eM11_103_1
    obtain ⟨byM11, pnM11⟩ := pM11
    rw [show M9 97 12 = M 97 12 + 12 by omega] at byM11
    refine g_aload_n (pc' := 42) 0 dX10_feed_41 rfl rfl ?_
    refine g_iload (pc' := 44) 5 dX10_feed_42 rfl rfl ?_
    refine g_callVv (pc' := 47) (As := [vi e2]) (b := 97) (S := []) dX10_feed_44 rfl m_X10_148 w_X10_four (c_X10_four_x X M11 iM11 e2 he2 (by omega)) rfl ⟨_, _, _, rfl, rfl, rfl⟩ (by decide) (by decide) rfl (Nat.le_of_ble_eq_true rfl) (fun M13 q12 => ?_)
    obtain ⟨iM13, fM130, eM13_99_0, eM13_99_1, eM13_99_2, eM13_99_3, eM13_100_0, eM13_100_1, eM13_100_2, eM13_100_3, eM13_100_49, eM13_100_50, eM13_100_51, eM13_100_52, eM13_103_0, eM13_103_1, eM13_97_17, eM13_97_33, eM13_97_10, eM13_97_44, eM13_97_1, pM13⟩ := q12
    have fM13 : Fr (fun c => c = 97 ∨ c = 106) M M13 := Fr.tr fM11 fM130 (fun _ z => z)
    have q99_0_M13 : (M13 99 0 = M 99 0) := eM13_99_0.trans q99_0_M11
    have q99_1_M13 : (M13 99 1 = M 99 1) := eM13_99_1.trans q99_1_M11
    have q99_2_M13 : (M13 99 2 = M 99 2) := eM13_99_2.trans q99_2_M11
    have q99_3_M13 : (M13 99 3 = M 99 3) := eM13_99_3.trans q99_3_M11
    have q100_0_M13 : id (M13 100 0 = M 100 0) := eM13_100_0.trans q100_0_M11
    have q100_1_M13 : id (M13 100 1 = M 100 1) := eM13_100_1.trans q100_1_M11
    have q100_2_M13 : id (M13 100 2 = M 100 2) := eM13_100_2.trans q100_2_M11
    have q100_3_M13 : id (M13 100 3 = M 100 3) := eM13_100_3.trans q100_3_M11
    have q100_49_M13 : id (M13 100 49 = M 100 49) := eM13_100_49.trans q100_49_M11
    have q100_50_M13 : id (M13 100 50 = M 100 50) := eM13_100_50.trans q100_50_M11
    have q100_51_M13 : id (M13 100 51 = M 100 51) := eM13_100_51.trans q100_51_M11
    have q100_52_M13 : id (M13 100 52 = M 100 52) := eM13_100_52.trans q100_52_M11
    have q103_0_M13 : id (M13 103 0 = M 103 0) := eM13_103_0.trans q103_0_M11
    have q103_1_M13 : id (M13 103 1 = M 103 1) := eM13_103_1.trans q103_1_M11
    have q97_17_M13 : (M13 97 17 = M 97 17) := eM13_97_17.trans q97_17_M11
    have q97_33_M13 : (M13 97 33 = M 97 33) := eM13_97_33.trans q97_33_M11
    have q97_10_M13 : (M13 97 10 = M 97 10) := eM13_97_10.trans q97_10_M11
    have q97_44_M13 : (M13 97 44 = M 97 44) := eM13_97_44.trans q97_44_M11
    have q97_1_M13 : (M13 97 1 = M 97 1) := eM13_97_1.trans q97_1_M11
    clear eM13_100_0 eM13_100_1 eM13_100_2 eM13_100_3 eM13_100_49 eM13_100_50 eM13_100_51 eM13_100_52 eM13_103_0 eM13_103_1
    obtain ⟨byM13, pnM13⟩ := pM13
    rw [show M11 97 12 = M 97 12 + 16 by omega] at byM13
    refine g_aload_n (pc' := 48) 0 dX10_feed_47 rfl rfl ?_
    refine g_getI (pc' := 51) dX10_feed_48 rfl f_X10_142 rfl rfl (fun v14 ev14 rv14 => ?_)
    have bv14 : 0 ≤ v14 ∧ v14 ≤ 400 := by rw [ev14]; exact iM13.2.2.2.1
    refine g_ireturn dX10_feed_51 ?_
    exact ⟨iM13, fM13, q99_0_M13, q99_1_M13, q99_2_M13, q99_3_M13, q100_0_M13, q100_1_M13, q100_2_M13, q100_3_M13, q100_49_M13, q100_50_M13, q100_51_M13, q100_52_M13, q103_0_M13, q103_1_M13, q97_17_M13, q97_33_M13, q97_10_M13, q97_44_M13, q97_1_M13, by omega, ⟨fun _ => ⟨M5 106, M7 106, M9 106, M11 106, byM5, byM7, byM9, byM11, byM13⟩, fun z => absurd z (by omega)⟩⟩
  · refine g_iconst (pc' := 19) dX10_feed_18 rfl ?_
    refine g_ireturn dX10_feed_19 ?_
    exact ⟨iM1, fM1, q99_0_M1, q99_1_M1, q99_2_M1, q99_3_M1, q100_0_M1, q100_1_M1, q100_2_M1, q100_3_M1, q100_49_M1, q100_50_M1, q100_51_M1, q100_52_M1, q103_0_M1, q103_1_M1, q97_17_M1, q97_33_M1, q97_10_M1, q97_44_M1, q97_1_M1, by omega, ⟨fun z => absurd z (by omega), fun _ => (show Fr (fun c => c = 97) M M1 from fun q hq => by rw [hM1]; exact mu_cell _ _ hq) 106 (by decide)⟩⟩
