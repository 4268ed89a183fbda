set_option maxHeartbeats 4000000 in
set_option maxRecDepth 100000 in
theorem c_X9_refusalPlace_x (X : Cx) (M : Mm) (a : Int) (ha : inI a) : Con X 0 yX9_refusalPlace cX9_refusalPlace 1 (some .int) [vi a] M (Qi (fun r M1 => M1 = M ∧ ((a = -1 ∧ r = 0) ∨ (a = -2 ∧ r = 1) ∨ (a = -3 ∧ r = 2) ∨ (a = -5 ∧ r = 3) ∨ (a = -6 ∧ r = 4) ∨ (r = -1 ∧ a ≠ -1 ∧ a ≠ -2 ∧ a ≠ -3 ∧ a ≠ -5 ∧ a ≠ -6)))) := by
  refine Con.ofG rfl (Nat.le_of_ble_eq_true rfl) ?_
  show G X 0 RX9 cX9_refusalPlace 1 (some .int) (Qi (fun r M1 => M1 = M ∧ ((a = -1 ∧ r = 0) ∨ (a = -2 ∧ r = 1) ∨ (a = -3 ∧ r = 2) ∨ (a = -5 ∧ r = 3) ∨ (a = -6 ∧ r = 4) ∨ (r = -1 ∧ a ≠ -1 ∧ a ≠ -2 ∧ a ≠ -3 ∧ a ≠ -5 ∧ a ≠ -6)))) 0 [(0, vi a)] [] M
  refine g_iload_n (pc' := 1) 0 dX9_refusalPlace_0 rfl rfl ?_
  by_cases c1 : a = (-6)
  · refine g_tabIn (tgt := 48) (off := 47) ha dX9_refusalPlace_1 (by omega) (by omega) (by rw [c1]; rfl) rfl ?_
    refine g_iconst (pc' := 49) dX9_refusalPlace_48 rfl ?_
    refine g_ireturn dX9_refusalPlace_49 ?_
    exact ⟨rfl, by omega⟩
  by_cases c2 : a = (-5)
  · refine g_tabIn (tgt := 46) (off := 45) ha dX9_refusalPlace_1 (by omega) (by omega) (by rw [c2]; rfl) rfl ?_
    refine g_iconst (pc' := 47) dX9_refusalPlace_46 rfl ?_
    refine g_ireturn dX9_refusalPlace_47 ?_
    exact ⟨rfl, by omega⟩
  by_cases c3 : a = (-4)
  · refine g_tabIn (tgt := 50) (off := 49) ha dX9_refusalPlace_1 (by omega) (by omega) (by rw [c3]; rfl) rfl ?_
    refine g_iconst (pc' := 51) dX9_refusalPlace_50 rfl ?_
    refine g_ireturn dX9_refusalPlace_51 ?_
    exact ⟨rfl, by omega⟩
  by_cases c4 : a = (-3)
  · refine g_tabIn (tgt := 44) (off := 43) ha dX9_refusalPlace_1 (by omega) (by omega) (by rw [c4]; rfl) rfl ?_
    refine g_iconst (pc' := 45) dX9_refusalPlace_44 rfl ?_
    refine g_ireturn dX9_refusalPlace_45 ?_
    exact ⟨rfl, by omega⟩
  by_cases c5 : a = (-2)
  · refine g_tabIn (tgt := 42) (off := 41) ha dX9_refusalPlace_1 (by omega) (by omega) (by rw [c5]; rfl) rfl ?_
    refine g_iconst (pc' := 43) dX9_refusalPlace_42 rfl ?_
    refine g_ireturn dX9_refusalPlace_43 ?_
    exact ⟨rfl, by omega⟩
  by_cases c6 : a = (-1)
  · refine g_tabIn (tgt := 40) (off := 39) ha dX9_refusalPlace_1 (by omega) (by omega) (by rw [c6]; rfl) rfl ?_
    refine g_iconst (pc' := 41) dX9_refusalPlace_40 rfl ?_
    refine g_ireturn dX9_refusalPlace_41 ?_
    exact ⟨rfl, by omega⟩
  refine g_tabOut (tgt := 50) ha dX9_refusalPlace_1 (by omega) rfl ?_
  refine g_iconst (pc' := 51) dX9_refusalPlace_50 rfl ?_
  refine g_ireturn dX9_refusalPlace_51 ?_
  exact ⟨rfl, by omega⟩
set_option maxHeartbeats 4000000 in
set_option maxRecDepth 100000 in
theorem c_X9_answered_x (X : Cx) (M : Mm) (hi : IC M) (a : Int) (ha : inI a) : Con X 1 yX9_answered cX9_answered 3 (some .int) [vr X 0, vi a] M (Qi (fun r M1 => IC M1 ∧ Fr (fun c => c = 0 ∨ c = 96) M M1 ∧ M1 2 5 = M 2 5 ∧ M1 1 2 = M 1 2 ∧ M1 1 4 = M 1 4 ∧ M1 1 6 = M 1 6 ∧ M1 11 5 = M 11 5 ∧ M1 10 2 = M 10 2 ∧ M1 10 4 = M 10 4 ∧ M1 10 6 = M 10 6 ∧ M1 20 5 = M 20 5 ∧ M1 19 2 = M 19 2 ∧ M1 19 4 = M 19 4 ∧ M1 19 6 = M 19 6 ∧ M1 29 0 = M 29 0 ∧ M1 29 1 = M 29 1 ∧ M1 31 1 = M 31 1 ∧ M1 0 11 = M 0 11 ∧ M1 0 12 = M 0 12 ∧ M1 0 13 = M 0 13 ∧ (r = a ∧ M1 0 10 = ngv a ∧ M1 96 = ansF (M 96) a))) := by
  refine Con.ofG rfl (Nat.le_of_ble_eq_true rfl) ?_
  show G X 1 RX9 cX9_answered 3 (some .int) (Qi (fun r M1 => IC M1 ∧ Fr (fun c => c = 0 ∨ c = 96) M M1 ∧ M1 2 5 = M 2 5 ∧ M1 1 2 = M 1 2 ∧ M1 1 4 = M 1 4 ∧ M1 1 6 = M 1 6 ∧ M1 11 5 = M 11 5 ∧ M1 10 2 = M 10 2 ∧ M1 10 4 = M 10 4 ∧ M1 10 6 = M 10 6 ∧ M1 20 5 = M 20 5 ∧ M1 19 2 = M 19 2 ∧ M1 19 4 = M 19 4 ∧ M1 19 6 = M 19 6 ∧ M1 29 0 = M 29 0 ∧ M1 29 1 = M 29 1 ∧ M1 31 1 = M 31 1 ∧ M1 0 11 = M 0 11 ∧ M1 0 12 = M 0 12 ∧ M1 0 13 = M 0 13 ∧ (r = a ∧ M1 0 10 = ngv a ∧ M1 96 = ansF (M 96) a))) 0 [(0, vr X 0), (1, vi a)] [] M
  refine g_aload_n (pc' := 1) 0 dX9_answered_0 rfl rfl ?_
  refine g_iload_n (pc' := 2) 1 dX9_answered_1 rfl rfl ?_
  refine g_iconst (pc' := 3) dX9_answered_2 rfl ?_
  refine g_mmin (pc' := 6) dX9_answered_3 rfl m_X9_298 ms_min mi_Math mc_min (by decide) (Nat.le_of_ble_eq_true rfl) ha (by decide) ?_
  obtain ⟨v1, ev1⟩ : ∃ z : Int, z = if 0 < a then 0 else a := ⟨_, rfl⟩
  rw [← ev1]
  refine g_putI (pc' := 9) dX9_answered_6 rfl p_X9_295 rfl rfl ⟨by omega, by omega⟩ (fun M2 hM2 => ?_)
  have iM2 : IC M2 := IC.wr hi hM2 (by unfold okw isT; first | decide | omega)
  have fM2 : Fr (fun c => c = 0 ∨ c = 96) M M2 := Fr.wr Fr.rf hM2 (by first | decide | omega | (dsimp only; omega))
  have q2_5_M2 : id (M2 2 5 = M 2 5) := (show M2 2 5 = M 2 5 by rw [hM2]; exact mu_ne _ _ (by first | decide | omega))
  have q1_2_M2 : id (M2 1 2 = M 1 2) := (show M2 1 2 = M 1 2 by rw [hM2]; exact mu_ne _ _ (by first | decide | omega))
  have q1_4_M2 : id (M2 1 4 = M 1 4) := (show M2 1 4 = M 1 4 by rw [hM2]; exact mu_ne _ _ (by first | decide | omega))
  have q1_6_M2 : id (M2 1 6 = M 1 6) := (show M2 1 6 = M 1 6 by rw [hM2]; exact mu_ne _ _ (by first | decide | omega))
  have q11_5_M2 : id (M2 11 5 = M 11 5) := (show M2 11 5 = M 11 5 by rw [hM2]; exact mu_ne _ _ (by first | decide | omega))
  have q10_2_M2 : id (M2 10 2 = M 10 2) := (show M2 10 2 = M 10 2 by rw [hM2]; exact mu_ne _ _ (by first | decide | omega))
  have q10_4_M2 : id (M2 10 4 = M 10 4) := (show M2 10 4 = M 10 4 by rw [hM2]; exact mu_ne _ _ (by first | decide | omega))
  have q10_6_M2 : id (M2 10 6 = M 10 6) := (show M2 10 6 = M 10 6 by rw [hM2]; exact mu_ne _ _ (by first | decide | omega))
  have q20_5_M2 : id (M2 20 5 = M 20 5) := (show M2 20 5 = M 20 5 by rw [hM2]; exact mu_ne _ _ (by first | decide | omega))
  have q19_2_M2 : id (M2 19 2 = M 19 2) := (show M2 19 2 = M 19 2 by rw [hM2]; exact mu_ne _ _ (by first | decide | omega))
  have q19_4_M2 : id (M2 19 4 = M 19 4) := (show M2 19 4 = M 19 4 by rw [hM2]; exact mu_ne _ _ (by first | decide | omega))
  have q19_6_M2 : id (M2 19 6 = M 19 6) := (show M2 19 6 = M 19 6 by rw [hM2]; exact mu_ne _ _ (by first | decide | omega))
  have q29_0_M2 : id (M2 29 0 = M 29 0) := (show M2 29 0 = M 29 0 by rw [hM2]; exact mu_ne _ _ (by first | decide | omega))
  have q29_1_M2 : id (M2 29 1 = M 29 1) := (show M2 29 1 = M 29 1 by rw [hM2]; exact mu_ne _ _ (by first | decide | omega))
  have q31_1_M2 : id (M2 31 1 = M 31 1) := (show M2 31 1 = M 31 1 by rw [hM2]; exact mu_ne _ _ (by first | decide | omega))
  have q0_11_M2 : id (M2 0 11 = M 0 11) := (show M2 0 11 = M 0 11 by rw [hM2]; exact mu_ne _ _ (by first | decide | omega))
  have q0_12_M2 : id (M2 0 12 = M 0 12) := (show M2 0 12 = M 0 12 by rw [hM2]; exact mu_ne _ _ (by first | decide | omega))
  have q0_13_M2 : id (M2 0 13 = M 0 13) := (show M2 0 13 = M 0 13 by rw [hM2]; exact mu_ne _ _ (by first | decide | omega))
  have xM2_0_10 : M2 0 10 = v1 := by rw [hM2]; exact mu_at _ _ _ _
  have c96M2 : M2 96 = M 96 := by rw [hM2]; exact mu_cell _ _ (by decide)
  refine g_aload_n (pc' := 10) 0 dX9_answered_9 rfl rfl ?_
  refine g_getI (pc' := 13) dX9_answered_10 rfl f_X9_295 rfl rfl (fun v3 ev3 rv3 => ?_)
  have yv3 : v3 = v1 := ev3.trans xM2_0_10
  refine g_callSip (pc' := 16) (As := [vi v3]) (S := []) dX9_answered_13 rfl m_X9_303 w_X9_refusalPlace (c_X9_refusalPlace_x X M2 v3 rv3) rfl (by decide) (by decide) rfl (Nat.le_of_ble_eq_true rfl) (fun z5 q4 => ?_)
  refine g_istore_n (pc' := 17) (i := 2) (L' := [(2, vi z5), (0, vr X 0), (1, vi a)]) dX9_answered_16 rfl rfl (by decide) rfl ?_
  refine g_iload_n (pc' := 18) 0 dX9_answered_17 rfl rfl ?_
  refine g_iconst (pc' := 19) dX9_answered_18 rfl ?_
  refine g_ic_eq (pc' := 22) (tgt := 32) ⟨by omega, by omega⟩ (by decide) dX9_answered_19 rfl rfl (fun c6 => ?_) (fun c6 => ?_)
  · refine g_iload_n (pc' := 33) 2 dX9_answered_32 rfl rfl ?_
    refine g_ireturn dX9_answered_33 ?_
    exact ⟨iM2, fM2, q2_5_M2, q1_2_M2, q1_4_M2, q1_6_M2, q11_5_M2, q10_2_M2, q10_4_M2, q10_6_M2, q20_5_M2, q19_2_M2, q19_4_M2, q19_6_M2, q29_0_M2, q29_1_M2, q31_1_M2, q0_11_M2, q0_12_M2, q0_13_M2, rfl, (by unfold ngv; split <;> omega), by rw [ansF_no (by omega)]; exact c96M2⟩
  · refine g_aload_n (pc' := 23) 1 dX9_answered_22 rfl rfl ?_
    refine g_getR (pc' := 26) dX9_answered_23 rfl f_X9_64 rfl rfl ?_
    refine g_iload_n (pc' := 27) 0 dX9_answered_26 rfl rfl ?_
    refine g_dup2_11 (pc' := 28) dX9_answered_27 rfl rfl rfl ?_
    refine g_iald (pc' := 29) dX9_answered_28 rfl rfl (by omega) (by omega) (fun v7 ev7 rv7 => ?_)
    refine g_iconst (pc' := 30) dX9_answered_29 rfl ?_
    refine g_iadd (pc' := 31) dX9_answered_30 rfl ?_
    refine g_nrmI (fun n8 rn8 en8 => ?_)
    have bn8 : (-2147483648 ≤ v7 + 1 ∧ v7 + 1 ≤ 2147483647) → n8 = v7 + 1 := fun h => en8.trans (bm32 h)
    refine g_iast (pc' := 32) dX9_answered_31 rfl rfl (by omega) (by omega) rn8 (fun M9 hM9 => ?_)
    have iM9 : IC M9 := IC.wr iM2 hM9 (by unfold okw isT; first | decide | omega)
    have fM9 : Fr (fun c => c = 0 ∨ c = 96) M M9 := Fr.wr fM2 hM9 (by first | decide | omega | (dsimp only; omega))
    have q2_5_M9 : id (M9 2 5 = M 2 5) := (show M9 2 5 = M2 2 5 by rw [hM9]; exact mu_ne _ _ (by first | decide | omega)).trans q2_5_M2
    have q1_2_M9 : id (M9 1 2 = M 1 2) := (show M9 1 2 = M2 1 2 by rw [hM9]; exact mu_ne _ _ (by first | decide | omega)).trans q1_2_M2
    have q1_4_M9 : id (M9 1 4 = M 1 4) := (show M9 1 4 = M2 1 4 by rw [hM9]; exact mu_ne _ _ (by first | decide | omega)).trans q1_4_M2
    have q1_6_M9 : id (M9 1 6 = M 1 6) := (show M9 1 6 = M2 1 6 by rw [hM9]; exact mu_ne _ _ (by first | decide | omega)).trans q1_6_M2
    have q11_5_M9 : id (M9 11 5 = M 11 5) := (show M9 11 5 = M2 11 5 by rw [hM9]; exact mu_ne _ _ (by first | decide | omega)).trans q11_5_M2
    have q10_2_M9 : id (M9 10 2 = M 10 2) := (show M9 10 2 = M2 10 2 by rw [hM9]; exact mu_ne _ _ (by first | decide | omega)).trans q10_2_M2
    have q10_4_M9 : id (M9 10 4 = M 10 4) := (show M9 10 4 = M2 10 4 by rw [hM9]; exact mu_ne _ _ (by first | decide | omega)).trans q10_4_M2
    have q10_6_M9 : id (M9 10 6 = M 10 6) := (show M9 10 6 = M2 10 6 by rw [hM9]; exact mu_ne _ _ (by first | decide | omega)).trans q10_6_M2
    have q20_5_M9 : id (M9 20 5 = M 20 5) := (show M9 20 5 = M2 20 5 by rw [hM9]; exact mu_ne _ _ (by first | decide | omega)).trans q20_5_M2
    have q19_2_M9 : id (M9 19 2 = M 19 2) := (show M9 19 2 = M2 19 2 by rw [hM9]; exact mu_ne _ _ (by first | decide | omega)).trans q19_2_M2
    have q19_4_M9 : id (M9 19 4 = M 19 4) := (show M9 19 4 = M2 19 4 by rw [hM9]; exact mu_ne _ _ (by first | decide | omega)).trans q19_4_M2
    have q19_6_M9 : id (M9 19 6 = M 19 6) := (show M9 19 6 = M2 19 6 by rw [hM9]; exact mu_ne _ _ (by first | decide | omega)).trans q19_6_M2
    have q29_0_M9 : id (M9 29 0 = M 29 0) := (show M9 29 0 = M2 29 0 by rw [hM9]; exact mu_ne _ _ (by first | decide | omega)).trans q29_0_M2
    have q29_1_M9 : id (M9 29 1 = M 29 1) := (show M9 29 1 = M2 29 1 by rw [hM9]; exact mu_ne _ _ (by first | decide | omega)).trans q29_1_M2
    have q31_1_M9 : id (M9 31 1 = M 31 1) := (show M9 31 1 = M2 31 1 by rw [hM9]; exact mu_ne _ _ (by first | decide | omega)).trans q31_1_M2
    have q0_11_M9 : id (M9 0 11 = M 0 11) := (show M9 0 11 = M2 0 11 by rw [hM9]; exact mu_ne _ _ (by first | decide | omega)).trans q0_11_M2
    have q0_12_M9 : id (M9 0 12 = M 0 12) := (show M9 0 12 = M2 0 12 by rw [hM9]; exact mu_ne _ _ (by first | decide | omega)).trans q0_12_M2
    have q0_13_M9 : id (M9 0 13 = M 0 13) := (show M9 0 13 = M2 0 13 by rw [hM9]; exact mu_ne _ _ (by first | decide | omega)).trans q0_13_M2
    have wM9_0_10 : M9 0 10 = M2 0 10 := by rw [hM9]; exact mu_ne _ _ (by first | decide | omega)
    have xM9_0_10 : M9 0 10 = v1 := (show M9 0 10 = M2 0 10 by rw [hM9]; exact mu_ne _ _ (by first | decide | omega)).trans xM2_0_10
    refine g_iload_n (pc' := 33) 2 dX9_answered_32 rfl rfl ?_
    refine g_ireturn dX9_answered_33 ?_
    exact ⟨iM9, fM9, q2_5_M9, q1_2_M9, q1_4_M9, q1_6_M9, q11_5_M9, q10_2_M9, q10_4_M9, q10_6_M9, q20_5_M9, q19_2_M9, q19_4_M9, q19_6_M9, q29_0_M9, q29_1_M9, q31_1_M9, q0_11_M9, q0_12_M9, q0_13_M9, rfl, (by unfold ngv; split <;> omega), by rw [ansF_at (i := z5.toNat) (by omega), hM9, mu_is, c96M2]; unfold inc; rw [← congrFun c96M2 _, ← ev7, ← en8]⟩
set_option maxHeartbeats 4000000 in
set_option maxRecDepth 100000 in
theorem c_X9_spoonGlass_x (X : Cx) (M : Mm) (hi : IC M) (a : Int) (ha : inI a) (b : Int) (hb : inI b) (c : Int) (hc : inI c) (ta tb : Nat) (n : Int) (P : Nat → Int) (L : Int) (F Z m z : Nat → Int) (tv : TV M 2 ta tb n P L F Z) (pub : PUB n P L F Z m z) : Con X 4 yX9_spoonGlass cX9_spoonGlass 5 (some .int) [vr X 0, vi a, vi b, vi c] M (Qi (fun r M1 => IC M1 ∧ Fr (fun c => 2 ≤ c ∧ c ≤ 6) M M1 ∧ M1 2 5 = M 2 5 ∧ M1 1 2 = M 1 2 ∧ M1 1 4 = M 1 4 ∧ M1 1 6 = M 1 6 ∧ M1 11 5 = M 11 5 ∧ M1 10 2 = M 10 2 ∧ M1 10 4 = M 10 4 ∧ M1 10 6 = M 10 6 ∧ M1 20 5 = M 20 5 ∧ M1 19 2 = M 19 2 ∧ M1 19 4 = M 19 4 ∧ M1 19 6 = M 19 6 ∧ M1 29 0 = M 29 0 ∧ M1 29 1 = M 29 1 ∧ M1 31 1 = M 31 1 ∧ M1 0 11 = M 0 11 ∧ M1 0 12 = M 0 12 ∧ M1 0 13 = M 0 13 ∧ M1 0 10 = M 0 10 ∧ ((-6 ≤ r ∧ r ≤ 60) ∧ (∀ (r1 : Int) (m1 : Nat → Int), PI m1 → RSP m z n a b c r1 m1 → r = r1 ∧ PB M1 2 n m1 z)))) := by
  refine Con.ofG rfl (Nat.le_of_ble_eq_true rfl) ?_
  show G X 4 RX9 cX9_spoonGlass 5 (some .int) (Qi (fun r M1 => IC M1 ∧ Fr (fun c => 2 ≤ c ∧ c ≤ 6) M M1 ∧ M1 2 5 = M 2 5 ∧ M1 1 2 = M 1 2 ∧ M1 1 4 = M 1 4 ∧ M1 1 6 = M 1 6 ∧ M1 11 5 = M 11 5 ∧ M1 10 2 = M 10 2 ∧ M1 10 4 = M 10 4 ∧ M1 10 6 = M 10 6 ∧ M1 20 5 = M 20 5 ∧ M1 19 2 = M 19 2 ∧ M1 19 4 = M 19 4 ∧ M1 19 6 = M 19 6 ∧ M1 29 0 = M 29 0 ∧ M1 29 1 = M 29 1 ∧ M1 31 1 = M 31 1 ∧ M1 0 11 = M 0 11 ∧ M1 0 12 = M 0 12 ∧ M1 0 13 = M 0 13 ∧ M1 0 10 = M 0 10 ∧ ((-6 ≤ r ∧ r ≤ 60) ∧ (∀ (r1 : Int) (m1 : Nat → Int), PI m1 → RSP m z n a b c r1 m1 → r = r1 ∧ PB M1 2 n m1 z)))) 0 [(0, vr X 0), (1, vi a), (2, vi b), (3, vi c)] [] M
  have tn := tv.2.2.1
  have ctn := pub.1.1
  refine g_iload_n (pc' := 1) 3 dX9_spoonGlass_0 rfl rfl ?_
  refine g_callSip (pc' := 4) (As := [vi c]) (S := []) dX9_spoonGlass_1 rfl m_X9_82 w_X9_isAmount (c_X9_isAmount X M c hc) rfl (by decide) (by decide) rfl (Nat.le_of_ble_eq_true rfl) (fun z2 q1 => ?_)
  refine g_if_ne (pc' := 7) (tgt := 9) ⟨by omega, by omega⟩ dX9_spoonGlass_4 rfl rfl (fun c3 => ?_) (fun c3 => ?_)
  · replace q1 := q1.resolve_right (fun h => c3 h.1)
    refine g_aload_n (pc' := 10) 0 dX9_spoonGlass_9 rfl rfl ?_
    refine g_getR (pc' := 13) dX9_spoonGlass_10 rfl f_X9_12 rfl rfl ?_
    refine g_getR (pc' := 16) dX9_spoonGlass_13 rfl f_X9_86 rfl rfl ?_
    refine g_iload_n (pc' := 17) 1 dX9_spoonGlass_16 rfl rfl ?_
    refine g_callVip (pc' := 20) (As := [vi a]) (b := 2) (S := []) dX9_spoonGlass_17 rfl m_X9_92 w_X7_has (c_X7_has X M 2 isT_2 (hi.1 _ isT_2) a ha) rfl ⟨_, _, _, rfl, rfl, rfl⟩ (by decide) (by decide) rfl (Nat.le_of_ble_eq_true rfl) (fun z5 q4 => ?_)
    refine g_if_eq (pc' := 23) (tgt := 37) ⟨by omega, by omega⟩ dX9_spoonGlass_20 rfl rfl (fun c6 => ?_) (fun c6 => ?_)
    · replace q4 := q4.resolve_left (fun h => absurd (c6.symm.trans h.1) (by decide))
      refine g_bipush (pc' := 39) (v := (-2)) dX9_spoonGlass_37 rfl (by decide) ?_
      refine g_ireturn dX9_spoonGlass_39 ?_
      exact ⟨hi, Fr.rf, rfl, rfl, rfl, rfl, rfl, rfl, rfl, rfl, rfl, rfl, rfl, rfl, rfl, rfl, rfl, rfl, rfl, rfl, rfl, by omega, fun r1 m1 pi1 h => (by
          have q := SPN.none pub (by omega) (by omega) h
          exact ⟨(by omega), ta, tb, P, L, F, Z, tv, q.2⟩)⟩
    · replace q4 := q4.resolve_right (fun h => c6 h.1)
      refine g_aload_n (pc' := 24) 0 dX9_spoonGlass_23 rfl rfl ?_
      refine g_getR (pc' := 27) dX9_spoonGlass_24 rfl f_X9_12 rfl rfl ?_
      refine g_getR (pc' := 30) dX9_spoonGlass_27 rfl f_X9_86 rfl rfl ?_
      refine g_iload_n (pc' := 31) 2 dX9_spoonGlass_30 rfl rfl ?_
      refine g_callVip (pc' := 34) (As := [vi b]) (b := 2) (S := []) dX9_spoonGlass_31 rfl m_X9_92 w_X7_has (c_X7_has X M 2 isT_2 (hi.1 _ isT_2) b hb) rfl ⟨_, _, _, rfl, rfl, rfl⟩ (by decide) (by decide) rfl (Nat.le_of_ble_eq_true rfl) (fun z8 q7 => ?_)
      refine g_if_ne (pc' := 37) (tgt := 40) ⟨by omega, by omega⟩ dX9_spoonGlass_34 rfl rfl (fun c9 => ?_) (fun c9 => ?_)
      · replace q7 := q7.resolve_right (fun h => c9 h.1)
        refine g_aload_n (pc' := 41) 0 dX9_spoonGlass_40 rfl rfl ?_
        refine g_getR (pc' := 44) dX9_spoonGlass_41 rfl f_X9_12 rfl rfl ?_
        refine g_getR (pc' := 47) dX9_spoonGlass_44 rfl f_X9_86 rfl rfl ?_
        refine g_iload_n (pc' := 48) 1 dX9_spoonGlass_47 rfl rfl ?_
        refine g_iload_n (pc' := 49) 2 dX9_spoonGlass_48 rfl rfl ?_
        refine g_iload_n (pc' := 50) 3 dX9_spoonGlass_49 rfl rfl ?_
        refine g_callVi (pc' := 53) (As := [vi a, vi b, vi c]) (b := 2) (S := []) dX9_spoonGlass_50 rfl m_X9_128 w_X7_carry (c_X7_carry_x X M 2 isT_2 (hi.1 _ isT_2) a ha b hb c hc ta tb n P L F Z tv pub.1.ct) rfl ⟨_, _, _, rfl, rfl, rfl⟩ (by decide) (by decide) rfl (Nat.le_of_ble_eq_true rfl) (fun z11 M12 q10 => ?_)
        obtain ⟨kM12, fM120, gM120, pM12⟩ := q10
        have iM12 : IC M12 := IC.ofT hi isT_2 fM120 kM12
        have fM12 : Fr (fun c => 2 ≤ c ∧ c ≤ 6) M M12 := Fr.tr Fr.rf fM120 (fun c z => by unfold inT at z; first | omega | (dsimp only; omega))
        have q2_5_M12 : id (M12 2 5 = M 2 5) := gM120
        have q1_2_M12 : id (M12 1 2 = M 1 2) := (congrFun (fM120 1 (by unfold inT; first | decide | omega)) 2)
        have q1_4_M12 : id (M12 1 4 = M 1 4) := (congrFun (fM120 1 (by unfold inT; first | decide | omega)) 4)
        have q1_6_M12 : id (M12 1 6 = M 1 6) := (congrFun (fM120 1 (by unfold inT; first | decide | omega)) 6)
        have q11_5_M12 : id (M12 11 5 = M 11 5) := (congrFun (fM120 11 (by unfold inT; first | decide | omega)) 5)
        have q10_2_M12 : id (M12 10 2 = M 10 2) := (congrFun (fM120 10 (by unfold inT; first | decide | omega)) 2)
        have q10_4_M12 : id (M12 10 4 = M 10 4) := (congrFun (fM120 10 (by unfold inT; first | decide | omega)) 4)
        have q10_6_M12 : id (M12 10 6 = M 10 6) := (congrFun (fM120 10 (by unfold inT; first | decide | omega)) 6)
        have q20_5_M12 : id (M12 20 5 = M 20 5) := (congrFun (fM120 20 (by unfold inT; first | decide | omega)) 5)
        have q19_2_M12 : id (M12 19 2 = M 19 2) := (congrFun (fM120 19 (by unfold inT; first | decide | omega)) 2)
        have q19_4_M12 : id (M12 19 4 = M 19 4) := (congrFun (fM120 19 (by unfold inT; first | decide | omega)) 4)
        have q19_6_M12 : id (M12 19 6 = M 19 6) := (congrFun (fM120 19 (by unfold inT; first | decide | omega)) 6)
        have q29_0_M12 : id (M12 29 0 = M 29 0) := (congrFun (fM120 29 (by unfold inT; first | decide | omega)) 0)
        have q29_1_M12 : id (M12 29 1 = M 29 1) := (congrFun (fM120 29 (by unfold inT; first | decide | omega)) 1)
        have q31_1_M12 : id (M12 31 1 = M 31 1) := (congrFun (fM120 31 (by unfold inT; first | decide | omega)) 1)
        have q0_11_M12 : id (M12 0 11 = M 0 11) := (congrFun (fM120 0 (by unfold inT; first | decide | omega)) 11)
        have q0_12_M12 : id (M12 0 12 = M 0 12) := (congrFun (fM120 0 (by unfold inT; first | decide | omega)) 12)
        have q0_13_M12 : id (M12 0 13 = M 0 13) := (congrFun (fM120 0 (by unfold inT; first | decide | omega)) 13)
        have q0_10_M12 : id (M12 0 10 = M 0 10) := (congrFun (fM120 0 (by unfold inT; first | decide | omega)) 10)
        obtain ⟨aM12, bM12, PM12, LM12, FM12, tvM12, crM12⟩ := pM12
        have tnM12 := tvM12.2.2.1
        have rrM12 := crM12.r
        refine g_istore (pc' := 55) (L' := [(4, vi z11), (0, vr X 0), (1, vi a), (2, vi b), (3, vi c)]) dX9_spoonGlass_53 rfl (by decide) rfl ?_
        refine g_iload (pc' := 57) 0 dX9_spoonGlass_55 rfl rfl ?_
        refine g_if_ge (pc' := 60) (tgt := 63) ⟨by omega, by omega⟩ dX9_spoonGlass_57 rfl rfl (fun c13 => ?_) (fun c13 => ?_)
        · refine g_aload_n (pc' := 64) 1 dX9_spoonGlass_63 rfl rfl ?_
          refine g_getR (pc' := 67) dX9_spoonGlass_64 rfl f_X9_12 rfl rfl ?_
          refine g_getR (pc' := 70) dX9_spoonGlass_67 rfl f_X9_86 rfl rfl ?_
          refine g_callVv (pc' := 73) (As := []) (b := 2) (S := []) dX9_spoonGlass_70 rfl m_X9_131 w_X7_toLowestTerms (c_X7_toLowestTerms_x X M12 2 isT_2 (iM12.1 _ isT_2) aM12 bM12 n PM12 LM12 FM12 Z tvM12 (CARR.ct pub.1 (crM12.can ⟨fun x => x.1, fun x => ⟨x, by omega⟩⟩) (by omega))) rfl ⟨_, _, _, rfl, rfl, rfl⟩ (by decide) (by decide) rfl (Nat.le_of_ble_eq_true rfl) (fun M15 q14 => ?_)
          obtain ⟨kM15, fM150, gM150, pM15⟩ := q14
          have iM15 : IC M15 := IC.ofT iM12 isT_2 fM150 kM15
          have fM15 : Fr (fun c => 2 ≤ c ∧ c ≤ 6) M M15 := Fr.tr fM12 fM150 (fun c z => by unfold inT at z; first | omega | (dsimp only; omega))
          have q2_5_M15 : id (M15 2 5 = M 2 5) := gM150.trans q2_5_M12
          have q1_2_M15 : id (M15 1 2 = M 1 2) := (congrFun (fM150 1 (by unfold inT; first | decide | omega)) 2).trans q1_2_M12
          have q1_4_M15 : id (M15 1 4 = M 1 4) := (congrFun (fM150 1 (by unfold inT; first | decide | omega)) 4).trans q1_4_M12
          have q1_6_M15 : id (M15 1 6 = M 1 6) := (congrFun (fM150 1 (by unfold inT; first | decide | omega)) 6).trans q1_6_M12
          have q11_5_M15 : id (M15 11 5 = M 11 5) := (congrFun (fM150 11 (by unfold inT; first | decide | omega)) 5).trans q11_5_M12
          have q10_2_M15 : id (M15 10 2 = M 10 2) := (congrFun (fM150 10 (by unfold inT; first | decide | omega)) 2).trans q10_2_M12
          have q10_4_M15 : id (M15 10 4 = M 10 4) := (congrFun (fM150 10 (by unfold inT; first | decide | omega)) 4).trans q10_4_M12
          have q10_6_M15 : id (M15 10 6 = M 10 6) := (congrFun (fM150 10 (by unfold inT; first | decide | omega)) 6).trans q10_6_M12
          have q20_5_M15 : id (M15 20 5 = M 20 5) := (congrFun (fM150 20 (by unfold inT; first | decide | omega)) 5).trans q20_5_M12
          have q19_2_M15 : id (M15 19 2 = M 19 2) := (congrFun (fM150 19 (by unfold inT; first | decide | omega)) 2).trans q19_2_M12
          have q19_4_M15 : id (M15 19 4 = M 19 4) := (congrFun (fM150 19 (by unfold inT; first | decide | omega)) 4).trans q19_4_M12
          have q19_6_M15 : id (M15 19 6 = M 19 6) := (congrFun (fM150 19 (by unfold inT; first | decide | omega)) 6).trans q19_6_M12
          have q29_0_M15 : id (M15 29 0 = M 29 0) := (congrFun (fM150 29 (by unfold inT; first | decide | omega)) 0).trans q29_0_M12
          have q29_1_M15 : id (M15 29 1 = M 29 1) := (congrFun (fM150 29 (by unfold inT; first | decide | omega)) 1).trans q29_1_M12
          have q31_1_M15 : id (M15 31 1 = M 31 1) := (congrFun (fM150 31 (by unfold inT; first | decide | omega)) 1).trans q31_1_M12
          have q0_11_M15 : id (M15 0 11 = M 0 11) := (congrFun (fM150 0 (by unfold inT; first | decide | omega)) 11).trans q0_11_M12
          have q0_12_M15 : id (M15 0 12 = M 0 12) := (congrFun (fM150 0 (by unfold inT; first | decide | omega)) 12).trans q0_12_M12
          have q0_13_M15 : id (M15 0 13 = M 0 13) := (congrFun (fM150 0 (by unfold inT; first | decide | omega)) 13).trans q0_13_M12
          have q0_10_M15 : id (M15 0 10 = M 0 10) := (congrFun (fM150 0 (by unfold inT; first | decide | omega)) 10).trans q0_10_M12
          obtain ⟨PM15, LM15, tvM15, dvM15, dlM15⟩ := pM15
          have tnM15 := tvM15.2.2.1
          have ctl : CT n PM15 LM15 FM12 Z := LOW.ct (CARR.ct pub.1 (crM12.can ⟨fun x => x.1, fun x => ⟨x, by omega⟩⟩) (by omega)) dvM15 dlM15
          refine g_aload_n (pc' := 74) 1 dX9_spoonGlass_73 rfl rfl ?_
          refine g_getR (pc' := 77) dX9_spoonGlass_74 rfl f_X9_12 rfl rfl ?_
          refine g_getR (pc' := 80) dX9_spoonGlass_77 rfl f_X9_86 rfl rfl ?_
          refine g_iload_n (pc' := 81) 3 dX9_spoonGlass_80 rfl rfl ?_
          refine g_callVip (pc' := 84) (As := [vi b]) (b := 2) (S := []) dX9_spoonGlass_81 rfl m_X9_98 w_X7_fullOf (c_X7_fullOf_x X M15 2 isT_2 (iM15.1 _ isT_2) b hb aM12 bM12 n PM15 LM15 FM12 Z tvM15 ctl) rfl ⟨_, _, _, rfl, rfl, rfl⟩ (by decide) (by decide) rfl (Nat.le_of_ble_eq_true rfl) (fun z17 q16 => ?_)
          have q16a := q16.1
          have q16b := q16.2
          unfold szQ at q16b
          clear q16
          refine g_ireturn dX9_spoonGlass_84 ?_
          exact ⟨iM15, fM15, q2_5_M15, q1_2_M15, q1_4_M15, q1_6_M15, q11_5_M15, q10_2_M15, q10_4_M15, q10_6_M15, q20_5_M15, q19_2_M15, q19_4_M15, q19_6_M15, q29_0_M15, q29_1_M15, q31_1_M15, q0_11_M15, q0_12_M15, q0_13_M15, q0_10_M15, by omega, fun r1 m1 pi1 h => (by
              have q := SPN.yes pub pi1 (by omega) (by omega) crM12 (by omega) dvM15 dlM15 h
              exact ⟨(by omega), aM12, bM12, PM15, LM15, FM12, Z, tvM15, q.2⟩)⟩
        · refine g_iload (pc' := 62) 0 dX9_spoonGlass_60 rfl rfl ?_
          refine g_ireturn dX9_spoonGlass_62 ?_
          exact ⟨iM12, fM12, q2_5_M12, q1_2_M12, q1_4_M12, q1_6_M12, q11_5_M12, q10_2_M12, q10_4_M12, q10_6_M12, q20_5_M12, q19_2_M12, q19_4_M12, q19_6_M12, q29_0_M12, q29_1_M12, q31_1_M12, q0_11_M12, q0_12_M12, q0_13_M12, q0_10_M12, by omega, fun r1 m1 pi1 h => (by
              have q := SPN.no pub pi1 (by omega) (by omega) crM12 (by omega) h
              exact ⟨(by omega), aM12, bM12, PM12, LM12, FM12, Z, tvM12, q.2⟩)⟩
      · replace q7 := q7.resolve_left (fun h => absurd (c9.symm.trans h.1) (by decide))
        refine g_bipush (pc' := 39) (v := (-2)) dX9_spoonGlass_37 rfl (by decide) ?_
        refine g_ireturn dX9_spoonGlass_39 ?_
        exact ⟨hi, Fr.rf, rfl, rfl, rfl, rfl, rfl, rfl, rfl, rfl, rfl, rfl, rfl, rfl, rfl, rfl, rfl, rfl, rfl, rfl, rfl, by omega, fun r1 m1 pi1 h => (by
            have q := SPN.none pub (by omega) (by omega) h
            exact ⟨(by omega), ta, tb, P, L, F, Z, tv, q.2⟩)⟩
  · replace q1 := q1.resolve_left (fun h => absurd (c3.symm.trans h.1) (by decide))
    refine g_iconst (pc' := 8) dX9_spoonGlass_7 rfl ?_
    refine g_ireturn dX9_spoonGlass_8 ?_
    exact ⟨hi, Fr.rf, rfl, rfl, rfl, rfl, rfl, rfl, rfl, rfl, rfl, rfl, rfl, rfl, rfl, rfl, rfl, rfl, rfl, rfl, rfl, by omega, fun r1 m1 pi1 h => (by
        have q := SPN.bad pub (by omega) h
        exact ⟨(by omega), ta, tb, P, L, F, Z, tv, q.2⟩)⟩
set_option maxHeartbeats 4000000 in
set_option maxRecDepth 100000 in
theorem c_X9_spoon_x (X : Cx) (M : Mm) (hi : IC M) (a : Int) (ha : inI a) (b : Int) (hb : inI b) (c : Int) (hc : inI c) (ta tb : Nat) (n : Int) (P : Nat → Int) (L : Int) (F Z m z : Nat → Int) (tv : TV M 2 ta tb n P L F Z) (pub : PUB n P L F Z m z) : Con X 5 yX9_spoon cX9_spoon 4 (some .int) [vr X 0, vi a, vi b, vi c] M (Qi (fun r M1 => IC M1 ∧ Fr (fun c => (2 ≤ c ∧ c ≤ 6) ∨ c = 0 ∨ c = 96) M M1 ∧ M1 2 5 = M 2 5 ∧ M1 1 2 = M 1 2 ∧ M1 1 4 = M 1 4 ∧ M1 1 6 = M 1 6 ∧ M1 11 5 = M 11 5 ∧ M1 10 2 = M 10 2 ∧ M1 10 4 = M 10 4 ∧ M1 10 6 = M 10 6 ∧ M1 20 5 = M 20 5 ∧ M1 19 2 = M 19 2 ∧ M1 19 4 = M 19 4 ∧ M1 19 6 = M 19 6 ∧ M1 29 0 = M 29 0 ∧ M1 29 1 = M 29 1 ∧ M1 31 1 = M 31 1 ∧ M1 0 11 = M 0 11 ∧ M1 0 12 = M 0 12 ∧ M1 0 13 = M 0 13 ∧ ((-6 ≤ r ∧ r ≤ 60) ∧ (∀ (r1 : Int) (m1 : Nat → Int), PI m1 → RSP m z n a b c r1 m1 → r = r1 ∧ PB M1 2 n m1 z) ∧ M1 0 10 = ngv r ∧ M1 96 = ansF (M 96) r))) := by
  refine Con.ofG rfl (Nat.le_of_ble_eq_true rfl) ?_
  show G X 5 RX9 cX9_spoon 4 (some .int) (Qi (fun r M1 => IC M1 ∧ Fr (fun c => (2 ≤ c ∧ c ≤ 6) ∨ c = 0 ∨ c = 96) M M1 ∧ M1 2 5 = M 2 5 ∧ M1 1 2 = M 1 2 ∧ M1 1 4 = M 1 4 ∧ M1 1 6 = M 1 6 ∧ M1 11 5 = M 11 5 ∧ M1 10 2 = M 10 2 ∧ M1 10 4 = M 10 4 ∧ M1 10 6 = M 10 6 ∧ M1 20 5 = M 20 5 ∧ M1 19 2 = M 19 2 ∧ M1 19 4 = M 19 4 ∧ M1 19 6 = M 19 6 ∧ M1 29 0 = M 29 0 ∧ M1 29 1 = M 29 1 ∧ M1 31 1 = M 31 1 ∧ M1 0 11 = M 0 11 ∧ M1 0 12 = M 0 12 ∧ M1 0 13 = M 0 13 ∧ ((-6 ≤ r ∧ r ≤ 60) ∧ (∀ (r1 : Int) (m1 : Nat → Int), PI m1 → RSP m z n a b c r1 m1 → r = r1 ∧ PB M1 2 n m1 z) ∧ M1 0 10 = ngv r ∧ M1 96 = ansF (M 96) r))) 0 [(0, vr X 0), (1, vi a), (2, vi b), (3, vi c)] [] M
  have tn := tv.2.2.1
  have ctn := pub.1.1
  refine g_aload_n (pc' := 1) 0 dX9_spoon_0 rfl rfl ?_
  refine g_aload_n (pc' := 2) 0 dX9_spoon_1 rfl rfl ?_
  refine g_iload_n (pc' := 3) 1 dX9_spoon_2 rfl rfl ?_
  refine g_iload_n (pc' := 4) 2 dX9_spoon_3 rfl rfl ?_
  refine g_iload_n (pc' := 5) 3 dX9_spoon_4 rfl rfl ?_
  refine g_callVi (pc' := 8) (As := [vi a, vi b, vi c]) (b := 0) (S := [vr X 0]) dX9_spoon_5 rfl m_X9_125 w_X9_spoonGlass (c_X9_spoonGlass_x X M hi a ha b hb c hc ta tb n P L F Z m z tv pub) rfl ⟨_, _, _, rfl, rfl, rfl⟩ (by decide) (by decide) rfl (Nat.le_of_ble_eq_true rfl) (fun z2 M3 q1 => ?_)
  obtain ⟨iM3, fM30, eM3_2_5, eM3_1_2, eM3_1_4, eM3_1_6, eM3_11_5, eM3_10_2, eM3_10_4, eM3_10_6, eM3_20_5, eM3_19_2, eM3_19_4, eM3_19_6, eM3_29_0, eM3_29_1, eM3_31_1, eM3_0_11, eM3_0_12, eM3_0_13, eM3_0_10, pM3⟩ := q1
  have fM3 : Fr (fun c => (2 ≤ c ∧ c ≤ 6) ∨ c = 0 ∨ c = 96) M M3 := Fr.tr Fr.rf fM30 fi_9
  have q2_5_M3 : id (M3 2 5 = M 2 5) := eM3_2_5
  have q1_2_M3 : id (M3 1 2 = M 1 2) := eM3_1_2
  have q1_4_M3 : id (M3 1 4 = M 1 4) := eM3_1_4
  have q1_6_M3 : id (M3 1 6 = M 1 6) := eM3_1_6
  have q11_5_M3 : id (M3 11 5 = M 11 5) := eM3_11_5
  have q10_2_M3 : id (M3 10 2 = M 10 2) := eM3_10_2
  have q10_4_M3 : id (M3 10 4 = M 10 4) := eM3_10_4
  have q10_6_M3 : id (M3 10 6 = M 10 6) := eM3_10_6
  have q20_5_M3 : id (M3 20 5 = M 20 5) := eM3_20_5
  have q19_2_M3 : id (M3 19 2 = M 19 2) := eM3_19_2
  have q19_4_M3 : id (M3 19 4 = M 19 4) := eM3_19_4
  have q19_6_M3 : id (M3 19 6 = M 19 6) := eM3_19_6
  have q29_0_M3 : id (M3 29 0 = M 29 0) := eM3_29_0
  have q29_1_M3 : id (M3 29 1 = M 29 1) := eM3_29_1
  have q31_1_M3 : id (M3 31 1 = M 31 1) := eM3_31_1
  have q0_11_M3 : id (M3 0 11 = M 0 11) := eM3_0_11
  have q0_12_M3 : id (M3 0 12 = M 0 12) := eM3_0_12
  have q0_13_M3 : id (M3 0 13 = M 0 13) := eM3_0_13
  have q0_10_M3 : (M3 0 10 = M 0 10) := eM3_0_10
  have wM3_0_10 : M3 0 10 = M 0 10 := eM3_0_10
  clear eM3_2_5 eM3_1_2 eM3_1_4 eM3_1_6 eM3_11_5 eM3_10_2 eM3_10_4 eM3_10_6 eM3_20_5 eM3_19_2 eM3_19_4 eM3_19_6 eM3_29_0 eM3_29_1 eM3_31_1 eM3_0_11 eM3_0_12 eM3_0_13
  obtain ⟨prM3, pgM3⟩ := pM3
  have e96M3 := fM30 96 (by first | decide | omega | (dsimp only; omega))
  refine g_callVi (pc' := 11) (As := [vi z2]) (b := 0) (S := []) dX9_spoon_8 rfl m_X9_79 w_X9_answered (c_X9_answered_x X M3 iM3 z2 ⟨by omega, by omega⟩) rfl ⟨_, _, _, rfl, rfl, rfl⟩ (by decide) (by decide) rfl (Nat.le_of_ble_eq_true rfl) (fun z5 M6 q4 => ?_)
  obtain ⟨iM6, fM60, eM6_2_5, eM6_1_2, eM6_1_4, eM6_1_6, eM6_11_5, eM6_10_2, eM6_10_4, eM6_10_6, eM6_20_5, eM6_19_2, eM6_19_4, eM6_19_6, eM6_29_0, eM6_29_1, eM6_31_1, eM6_0_11, eM6_0_12, eM6_0_13, pM6⟩ := q4
  have fM6 : Fr (fun c => (2 ≤ c ∧ c ≤ 6) ∨ c = 0 ∨ c = 96) M M6 := Fr.tr fM3 fM60 fi_10
  have q2_5_M6 : id (M6 2 5 = M 2 5) := eM6_2_5.trans q2_5_M3
  have q1_2_M6 : id (M6 1 2 = M 1 2) := eM6_1_2.trans q1_2_M3
  have q1_4_M6 : id (M6 1 4 = M 1 4) := eM6_1_4.trans q1_4_M3
  have q1_6_M6 : id (M6 1 6 = M 1 6) := eM6_1_6.trans q1_6_M3
  have q11_5_M6 : id (M6 11 5 = M 11 5) := eM6_11_5.trans q11_5_M3
  have q10_2_M6 : id (M6 10 2 = M 10 2) := eM6_10_2.trans q10_2_M3
  have q10_4_M6 : id (M6 10 4 = M 10 4) := eM6_10_4.trans q10_4_M3
  have q10_6_M6 : id (M6 10 6 = M 10 6) := eM6_10_6.trans q10_6_M3
  have q20_5_M6 : id (M6 20 5 = M 20 5) := eM6_20_5.trans q20_5_M3
  have q19_2_M6 : id (M6 19 2 = M 19 2) := eM6_19_2.trans q19_2_M3
  have q19_4_M6 : id (M6 19 4 = M 19 4) := eM6_19_4.trans q19_4_M3
  have q19_6_M6 : id (M6 19 6 = M 19 6) := eM6_19_6.trans q19_6_M3
  have q29_0_M6 : id (M6 29 0 = M 29 0) := eM6_29_0.trans q29_0_M3
  have q29_1_M6 : id (M6 29 1 = M 29 1) := eM6_29_1.trans q29_1_M3
  have q31_1_M6 : id (M6 31 1 = M 31 1) := eM6_31_1.trans q31_1_M3
  have q0_11_M6 : id (M6 0 11 = M 0 11) := eM6_0_11.trans q0_11_M3
  have q0_12_M6 : id (M6 0 12 = M 0 12) := eM6_0_12.trans q0_12_M3
  have q0_13_M6 : id (M6 0 13 = M 0 13) := eM6_0_13.trans q0_13_M3
  clear eM6_2_5 eM6_1_2 eM6_1_4 eM6_1_6 eM6_11_5 eM6_10_2 eM6_10_4 eM6_10_6 eM6_20_5 eM6_19_2 eM6_19_4 eM6_19_6 eM6_29_0 eM6_29_1 eM6_31_1 eM6_0_11 eM6_0_12 eM6_0_13
  obtain ⟨anM6, asM6, a96M6⟩ := pM6
  rw [e96M3] at a96M6
  subst anM6
  have faM6 := fM60
  refine g_ireturn dX9_spoon_11 ?_
  exact ⟨iM6, fM6, q2_5_M6, q1_2_M6, q1_4_M6, q1_6_M6, q11_5_M6, q10_2_M6, q10_4_M6, q10_6_M6, q20_5_M6, q19_2_M6, q19_4_M6, q19_6_M6, q29_0_M6, q29_1_M6, q31_1_M6, q0_11_M6, q0_12_M6, q0_13_M6, prM3, fun r1 m1 pi1 h => (by
      obtain ⟨q1, a1, b1, P1, L1, F1, Z1, t1, p1⟩ := pgM3 r1 m1 pi1 h
      exact ⟨q1, a1, b1, P1, L1, F1, Z1, t1.far faM6 (fun c z => by unfold inT; first | omega | (dsimp only at z; omega)), p1⟩), asM6, a96M6⟩
set_option maxHeartbeats 4000000 in
set_option maxRecDepth 100000 in
theorem c_X9_lickGlass_x (X : Cx) (M : Mm) (hi : IC M) (a : Int) (ha : inI a) (b : Int) (hb : inI b) (ta tb : Nat) (n : Int) (P : Nat → Int) (L : Int) (F Z m z : Nat → Int) (tv : TV M 2 ta tb n P L F Z) (pub : PUB n P L F Z m z) : Con X 4 yX9_lickGlass cX9_lickGlass 4 (some .int) [vr X 0, vi a, vi b] M (Qi (fun r M1 => IC M1 ∧ Fr (fun c => 2 ≤ c ∧ c ≤ 6) M M1 ∧ M1 2 5 = M 2 5 ∧ M1 1 2 = M 1 2 ∧ M1 1 4 = M 1 4 ∧ M1 1 6 = M 1 6 ∧ M1 11 5 = M 11 5 ∧ M1 10 2 = M 10 2 ∧ M1 10 4 = M 10 4 ∧ M1 10 6 = M 10 6 ∧ M1 20 5 = M 20 5 ∧ M1 19 2 = M 19 2 ∧ M1 19 4 = M 19 4 ∧ M1 19 6 = M 19 6 ∧ M1 29 0 = M 29 0 ∧ M1 29 1 = M 29 1 ∧ M1 31 1 = M 31 1 ∧ M1 0 11 = M 0 11 ∧ M1 0 12 = M 0 12 ∧ M1 0 13 = M 0 13 ∧ M1 0 10 = M 0 10 ∧ ((-6 ≤ r ∧ r ≤ 60) ∧ (∀ (r1 : Int) (m1 : Nat → Int), PI m1 → RLK m z n a b r1 m1 → r = r1 ∧ PB M1 2 n m1 z)))) := by
  refine Con.ofG rfl (Nat.le_of_ble_eq_true rfl) ?_
  show G X 4 RX9 cX9_lickGlass 4 (some .int) (Qi (fun r M1 => IC M1 ∧ Fr (fun c => 2 ≤ c ∧ c ≤ 6) M M1 ∧ M1 2 5 = M 2 5 ∧ M1 1 2 = M 1 2 ∧ M1 1 4 = M 1 4 ∧ M1 1 6 = M 1 6 ∧ M1 11 5 = M 11 5 ∧ M1 10 2 = M 10 2 ∧ M1 10 4 = M 10 4 ∧ M1 10 6 = M 10 6 ∧ M1 20 5 = M 20 5 ∧ M1 19 2 = M 19 2 ∧ M1 19 4 = M 19 4 ∧ M1 19 6 = M 19 6 ∧ M1 29 0 = M 29 0 ∧ M1 29 1 = M 29 1 ∧ M1 31 1 = M 31 1 ∧ M1 0 11 = M 0 11 ∧ M1 0 12 = M 0 12 ∧ M1 0 13 = M 0 13 ∧ M1 0 10 = M 0 10 ∧ ((-6 ≤ r ∧ r ≤ 60) ∧ (∀ (r1 : Int) (m1 : Nat → Int), PI m1 → RLK m z n a b r1 m1 → r = r1 ∧ PB M1 2 n m1 z)))) 0 [(0, vr X 0), (1, vi a), (2, vi b)] [] M
  have tn := tv.2.2.1
  have ctn := pub.1.1
  refine g_iload_n (pc' := 1) 2 dX9_lickGlass_0 rfl rfl ?_
  refine g_callSip (pc' := 4) (As := [vi b]) (S := []) dX9_lickGlass_1 rfl m_X9_82 w_X9_isAmount (c_X9_isAmount X M b hb) rfl (by decide) (by decide) rfl (Nat.le_of_ble_eq_true rfl) (fun z2 q1 => ?_)
  refine g_if_ne (pc' := 7) (tgt := 9) ⟨by omega, by omega⟩ dX9_lickGlass_4 rfl rfl (fun c3 => ?_) (fun c3 => ?_)
  · replace q1 := q1.resolve_right (fun h => c3 h.1)
    refine g_aload_n (pc' := 10) 0 dX9_lickGlass_9 rfl rfl ?_
    refine g_getR (pc' := 13) dX9_lickGlass_10 rfl f_X9_12 rfl rfl ?_
    refine g_getR (pc' := 16) dX9_lickGlass_13 rfl f_X9_86 rfl rfl ?_
    refine g_iload_n (pc' := 17) 1 dX9_lickGlass_16 rfl rfl ?_
    refine g_callVip (pc' := 20) (As := [vi a]) (b := 2) (S := []) dX9_lickGlass_17 rfl m_X9_92 w_X7_has (c_X7_has X M 2 isT_2 (hi.1 _ isT_2) a ha) rfl ⟨_, _, _, rfl, rfl, rfl⟩ (by decide) (by decide) rfl (Nat.le_of_ble_eq_true rfl) (fun z5 q4 => ?_)
    refine g_if_ne (pc' := 23) (tgt := 26) ⟨by omega, by omega⟩ dX9_lickGlass_20 rfl rfl (fun c6 => ?_) (fun c6 => ?_)
    · replace q4 := q4.resolve_right (fun h => c6 h.1)
      refine g_aload_n (pc' := 27) 0 dX9_lickGlass_26 rfl rfl ?_
      refine g_getR (pc' := 30) dX9_lickGlass_27 rfl f_X9_12 rfl rfl ?_
      refine g_getR (pc' := 33) dX9_lickGlass_30 rfl f_X9_86 rfl rfl ?_
      refine g_iload_n (pc' := 34) 1 dX9_lickGlass_33 rfl rfl ?_
      refine g_iload_n (pc' := 35) 2 dX9_lickGlass_34 rfl rfl ?_
      refine g_callVi (pc' := 38) (As := [vi a, vi b]) (b := 2) (S := []) dX9_lickGlass_35 rfl m_X9_137 w_X7_takeOut (c_X7_takeOut_x X M 2 isT_2 (hi.1 _ isT_2) a ha b hb ta tb n P L F Z tv pub.1.ct) rfl ⟨_, _, _, rfl, rfl, rfl⟩ (by decide) (by decide) rfl (Nat.le_of_ble_eq_true rfl) (fun z8 M9 q7 => ?_)
      obtain ⟨kM9, fM90, gM90, pM9⟩ := q7
      have iM9 : IC M9 := IC.ofT hi isT_2 fM90 kM9
      have fM9 : Fr (fun c => 2 ≤ c ∧ c ≤ 6) M M9 := Fr.tr Fr.rf fM90 (fun c z => by unfold inT at z; first | omega | (dsimp only; omega))
      have q2_5_M9 : id (M9 2 5 = M 2 5) := gM90
      have q1_2_M9 : id (M9 1 2 = M 1 2) := (congrFun (fM90 1 (by unfold inT; first | decide | omega)) 2)
      have q1_4_M9 : id (M9 1 4 = M 1 4) := (congrFun (fM90 1 (by unfold inT; first | decide | omega)) 4)
      have q1_6_M9 : id (M9 1 6 = M 1 6) := (congrFun (fM90 1 (by unfold inT; first | decide | omega)) 6)
      have q11_5_M9 : id (M9 11 5 = M 11 5) := (congrFun (fM90 11 (by unfold inT; first | decide | omega)) 5)
      have q10_2_M9 : id (M9 10 2 = M 10 2) := (congrFun (fM90 10 (by unfold inT; first | decide | omega)) 2)
      have q10_4_M9 : id (M9 10 4 = M 10 4) := (congrFun (fM90 10 (by unfold inT; first | decide | omega)) 4)
      have q10_6_M9 : id (M9 10 6 = M 10 6) := (congrFun (fM90 10 (by unfold inT; first | decide | omega)) 6)
      have q20_5_M9 : id (M9 20 5 = M 20 5) := (congrFun (fM90 20 (by unfold inT; first | decide | omega)) 5)
      have q19_2_M9 : id (M9 19 2 = M 19 2) := (congrFun (fM90 19 (by unfold inT; first | decide | omega)) 2)
      have q19_4_M9 : id (M9 19 4 = M 19 4) := (congrFun (fM90 19 (by unfold inT; first | decide | omega)) 4)
      have q19_6_M9 : id (M9 19 6 = M 19 6) := (congrFun (fM90 19 (by unfold inT; first | decide | omega)) 6)
      have q29_0_M9 : id (M9 29 0 = M 29 0) := (congrFun (fM90 29 (by unfold inT; first | decide | omega)) 0)
      have q29_1_M9 : id (M9 29 1 = M 29 1) := (congrFun (fM90 29 (by unfold inT; first | decide | omega)) 1)
      have q31_1_M9 : id (M9 31 1 = M 31 1) := (congrFun (fM90 31 (by unfold inT; first | decide | omega)) 1)
      have q0_11_M9 : id (M9 0 11 = M 0 11) := (congrFun (fM90 0 (by unfold inT; first | decide | omega)) 11)
      have q0_12_M9 : id (M9 0 12 = M 0 12) := (congrFun (fM90 0 (by unfold inT; first | decide | omega)) 12)
      have q0_13_M9 : id (M9 0 13 = M 0 13) := (congrFun (fM90 0 (by unfold inT; first | decide | omega)) 13)
      have q0_10_M9 : id (M9 0 10 = M 0 10) := (congrFun (fM90 0 (by unfold inT; first | decide | omega)) 10)
      obtain ⟨aM9, bM9, PM9, LM9, FM9, tvM9, crM9⟩ := pM9
      have tnM9 := tvM9.2.2.1
      have rrM9 := crM9.r
      refine g_istore_n (pc' := 39) (i := 3) (L' := [(3, vi z8), (0, vr X 0), (1, vi a), (2, vi b)]) dX9_lickGlass_38 rfl rfl (by decide) rfl ?_
      refine g_iload_n (pc' := 40) 0 dX9_lickGlass_39 rfl rfl ?_
      refine g_if_ge (pc' := 43) (tgt := 45) ⟨by omega, by omega⟩ dX9_lickGlass_40 rfl rfl (fun c10 => ?_) (fun c10 => ?_)
      · refine g_aload_n (pc' := 46) 1 dX9_lickGlass_45 rfl rfl ?_
        refine g_getR (pc' := 49) dX9_lickGlass_46 rfl f_X9_12 rfl rfl ?_
        refine g_getR (pc' := 52) dX9_lickGlass_49 rfl f_X9_86 rfl rfl ?_
        refine g_callVv (pc' := 55) (As := []) (b := 2) (S := []) dX9_lickGlass_52 rfl m_X9_131 w_X7_toLowestTerms (c_X7_toLowestTerms_x X M9 2 isT_2 (iM9.1 _ isT_2) aM9 bM9 n PM9 LM9 FM9 Z tvM9 (CARR.ct pub.1 crM9 (by omega))) rfl ⟨_, _, _, rfl, rfl, rfl⟩ (by decide) (by decide) rfl (Nat.le_of_ble_eq_true rfl) (fun M12 q11 => ?_)
        obtain ⟨kM12, fM120, gM120, pM12⟩ := q11
        have iM12 : IC M12 := IC.ofT iM9 isT_2 fM120 kM12
        have fM12 : Fr (fun c => 2 ≤ c ∧ c ≤ 6) M M12 := Fr.tr fM9 fM120 (fun c z => by unfold inT at z; first | omega | (dsimp only; omega))
        have q2_5_M12 : id (M12 2 5 = M 2 5) := gM120.trans q2_5_M9
        have q1_2_M12 : id (M12 1 2 = M 1 2) := (congrFun (fM120 1 (by unfold inT; first | decide | omega)) 2).trans q1_2_M9
        have q1_4_M12 : id (M12 1 4 = M 1 4) := (congrFun (fM120 1 (by unfold inT; first | decide | omega)) 4).trans q1_4_M9
        have q1_6_M12 : id (M12 1 6 = M 1 6) := (congrFun (fM120 1 (by unfold inT; first | decide | omega)) 6).trans q1_6_M9
        have q11_5_M12 : id (M12 11 5 = M 11 5) := (congrFun (fM120 11 (by unfold inT; first | decide | omega)) 5).trans q11_5_M9
        have q10_2_M12 : id (M12 10 2 = M 10 2) := (congrFun (fM120 10 (by unfold inT; first | decide | omega)) 2).trans q10_2_M9
        have q10_4_M12 : id (M12 10 4 = M 10 4) := (congrFun (fM120 10 (by unfold inT; first | decide | omega)) 4).trans q10_4_M9
        have q10_6_M12 : id (M12 10 6 = M 10 6) := (congrFun (fM120 10 (by unfold inT; first | decide | omega)) 6).trans q10_6_M9
        have q20_5_M12 : id (M12 20 5 = M 20 5) := (congrFun (fM120 20 (by unfold inT; first | decide | omega)) 5).trans q20_5_M9
        have q19_2_M12 : id (M12 19 2 = M 19 2) := (congrFun (fM120 19 (by unfold inT; first | decide | omega)) 2).trans q19_2_M9
        have q19_4_M12 : id (M12 19 4 = M 19 4) := (congrFun (fM120 19 (by unfold inT; first | decide | omega)) 4).trans q19_4_M9
        have q19_6_M12 : id (M12 19 6 = M 19 6) := (congrFun (fM120 19 (by unfold inT; first | decide | omega)) 6).trans q19_6_M9
        have q29_0_M12 : id (M12 29 0 = M 29 0) := (congrFun (fM120 29 (by unfold inT; first | decide | omega)) 0).trans q29_0_M9
        have q29_1_M12 : id (M12 29 1 = M 29 1) := (congrFun (fM120 29 (by unfold inT; first | decide | omega)) 1).trans q29_1_M9
        have q31_1_M12 : id (M12 31 1 = M 31 1) := (congrFun (fM120 31 (by unfold inT; first | decide | omega)) 1).trans q31_1_M9
        have q0_11_M12 : id (M12 0 11 = M 0 11) := (congrFun (fM120 0 (by unfold inT; first | decide | omega)) 11).trans q0_11_M9
        have q0_12_M12 : id (M12 0 12 = M 0 12) := (congrFun (fM120 0 (by unfold inT; first | decide | omega)) 12).trans q0_12_M9
        have q0_13_M12 : id (M12 0 13 = M 0 13) := (congrFun (fM120 0 (by unfold inT; first | decide | omega)) 13).trans q0_13_M9
        have q0_10_M12 : id (M12 0 10 = M 0 10) := (congrFun (fM120 0 (by unfold inT; first | decide | omega)) 10).trans q0_10_M9
        obtain ⟨PM12, LM12, tvM12, dvM12, dlM12⟩ := pM12
        have tnM12 := tvM12.2.2.1
        have ctl : CT n PM12 LM12 FM9 Z := LOW.ct (CARR.ct pub.1 crM9 (by omega)) dvM12 dlM12
        refine g_aload_n (pc' := 56) 1 dX9_lickGlass_55 rfl rfl ?_
        refine g_getR (pc' := 59) dX9_lickGlass_56 rfl f_X9_12 rfl rfl ?_
        refine g_getR (pc' := 62) dX9_lickGlass_59 rfl f_X9_86 rfl rfl ?_
        refine g_iload_n (pc' := 63) 2 dX9_lickGlass_62 rfl rfl ?_
        refine g_callVip (pc' := 66) (As := [vi a]) (b := 2) (S := []) dX9_lickGlass_63 rfl m_X9_98 w_X7_fullOf (c_X7_fullOf_x X M12 2 isT_2 (iM12.1 _ isT_2) a ha aM9 bM9 n PM12 LM12 FM9 Z tvM12 ctl) rfl ⟨_, _, _, rfl, rfl, rfl⟩ (by decide) (by decide) rfl (Nat.le_of_ble_eq_true rfl) (fun z14 q13 => ?_)
        have q13a := q13.1
        have q13b := q13.2
        unfold szQ at q13b
        clear q13
        refine g_ireturn dX9_lickGlass_66 ?_
        exact ⟨iM12, fM12, q2_5_M12, q1_2_M12, q1_4_M12, q1_6_M12, q11_5_M12, q10_2_M12, q10_4_M12, q10_6_M12, q20_5_M12, q19_2_M12, q19_4_M12, q19_6_M12, q29_0_M12, q29_1_M12, q31_1_M12, q0_11_M12, q0_12_M12, q0_13_M12, q0_10_M12, by omega, fun r1 m1 pi1 h => (by
            have q := LKN.yes pub pi1 (by omega) (by omega) crM9 (by omega) dvM12 dlM12 h
            exact ⟨(by omega), aM9, bM9, PM12, LM12, FM9, Z, tvM12, q.2⟩)⟩
      · refine g_iload_n (pc' := 44) 0 dX9_lickGlass_43 rfl rfl ?_
        refine g_ireturn dX9_lickGlass_44 ?_
        exact ⟨iM9, fM9, q2_5_M9, q1_2_M9, q1_4_M9, q1_6_M9, q11_5_M9, q10_2_M9, q10_4_M9, q10_6_M9, q20_5_M9, q19_2_M9, q19_4_M9, q19_6_M9, q29_0_M9, q29_1_M9, q31_1_M9, q0_11_M9, q0_12_M9, q0_13_M9, q0_10_M9, by omega, fun r1 m1 pi1 h => (by
            have q := LKN.no pub pi1 (by omega) (by omega) crM9 (by omega) h
            exact ⟨(by omega), aM9, bM9, PM9, LM9, FM9, Z, tvM9, q.2⟩)⟩
    · replace q4 := q4.resolve_left (fun h => absurd (c6.symm.trans h.1) (by decide))
      refine g_bipush (pc' := 25) (v := (-2)) dX9_lickGlass_23 rfl (by decide) ?_
      refine g_ireturn dX9_lickGlass_25 ?_
      exact ⟨hi, Fr.rf, rfl, rfl, rfl, rfl, rfl, rfl, rfl, rfl, rfl, rfl, rfl, rfl, rfl, rfl, rfl, rfl, rfl, rfl, rfl, by omega, fun r1 m1 pi1 h => (by
          have q := LKN.none pub (by omega) (by omega) h
          exact ⟨(by omega), ta, tb, P, L, F, Z, tv, q.2⟩)⟩
  · replace q1 := q1.resolve_left (fun h => absurd (c3.symm.trans h.1) (by decide))
    refine g_iconst (pc' := 8) dX9_lickGlass_7 rfl ?_
    refine g_ireturn dX9_lickGlass_8 ?_
    exact ⟨hi, Fr.rf, rfl, rfl, rfl, rfl, rfl, rfl, rfl, rfl, rfl, rfl, rfl, rfl, rfl, rfl, rfl, rfl, rfl, rfl, rfl, by omega, fun r1 m1 pi1 h => (by
        have q := LKN.bad pub (by omega) h
        exact ⟨(by omega), ta, tb, P, L, F, Z, tv, q.2⟩)⟩
set_option maxHeartbeats 4000000 in
set_option maxRecDepth 100000 in
theorem c_X9_lick_x (X : Cx) (M : Mm) (hi : IC M) (a : Int) (ha : inI a) (b : Int) (hb : inI b) (ta tb : Nat) (n : Int) (P : Nat → Int) (L : Int) (F Z m z : Nat → Int) (tv : TV M 2 ta tb n P L F Z) (pub : PUB n P L F Z m z) : Con X 5 yX9_lick cX9_lick 3 (some .int) [vr X 0, vi a, vi b] M (Qi (fun r M1 => IC M1 ∧ Fr (fun c => (2 ≤ c ∧ c ≤ 6) ∨ c = 0 ∨ c = 96) M M1 ∧ M1 2 5 = M 2 5 ∧ M1 1 2 = M 1 2 ∧ M1 1 4 = M 1 4 ∧ M1 1 6 = M 1 6 ∧ M1 11 5 = M 11 5 ∧ M1 10 2 = M 10 2 ∧ M1 10 4 = M 10 4 ∧ M1 10 6 = M 10 6 ∧ M1 20 5 = M 20 5 ∧ M1 19 2 = M 19 2 ∧ M1 19 4 = M 19 4 ∧ M1 19 6 = M 19 6 ∧ M1 29 0 = M 29 0 ∧ M1 29 1 = M 29 1 ∧ M1 31 1 = M 31 1 ∧ M1 0 11 = M 0 11 ∧ M1 0 12 = M 0 12 ∧ M1 0 13 = M 0 13 ∧ ((-6 ≤ r ∧ r ≤ 60) ∧ (∀ (r1 : Int) (m1 : Nat → Int), PI m1 → RLK m z n a b r1 m1 → r = r1 ∧ PB M1 2 n m1 z) ∧ M1 0 10 = ngv r ∧ M1 96 = ansF (M 96) r))) := by
  refine Con.ofG rfl (Nat.le_of_ble_eq_true rfl) ?_
  show G X 5 RX9 cX9_lick 3 (some .int) (Qi (fun r M1 => IC M1 ∧ Fr (fun c => (2 ≤ c ∧ c ≤ 6) ∨ c = 0 ∨ c = 96) M M1 ∧ M1 2 5 = M 2 5 ∧ M1 1 2 = M 1 2 ∧ M1 1 4 = M 1 4 ∧ M1 1 6 = M 1 6 ∧ M1 11 5 = M 11 5 ∧ M1 10 2 = M 10 2 ∧ M1 10 4 = M 10 4 ∧ M1 10 6 = M 10 6 ∧ M1 20 5 = M 20 5 ∧ M1 19 2 = M 19 2 ∧ M1 19 4 = M 19 4 ∧ M1 19 6 = M 19 6 ∧ M1 29 0 = M 29 0 ∧ M1 29 1 = M 29 1 ∧ M1 31 1 = M 31 1 ∧ M1 0 11 = M 0 11 ∧ M1 0 12 = M 0 12 ∧ M1 0 13 = M 0 13 ∧ ((-6 ≤ r ∧ r ≤ 60) ∧ (∀ (r1 : Int) (m1 : Nat → Int), PI m1 → RLK m z n a b r1 m1 → r = r1 ∧ PB M1 2 n m1 z) ∧ M1 0 10 = ngv r ∧ M1 96 = ansF (M 96) r))) 0 [(0, vr X 0), (1, vi a), (2, vi b)] [] M
  have tn := tv.2.2.1
  have ctn := pub.1.1
  refine g_aload_n (pc' := 1) 0 dX9_lick_0 rfl rfl ?_
  refine g_aload_n (pc' := 2) 0 dX9_lick_1 rfl rfl ?_
  refine g_iload_n (pc' := 3) 1 dX9_lick_2 rfl rfl ?_
  refine g_iload_n (pc' := 4) 2 dX9_lick_3 rfl rfl ?_
  refine g_callVi (pc' := 7) (As := [vi a, vi b]) (b := 0) (S := [vr X 0]) dX9_lick_4 rfl m_X9_134 w_X9_lickGlass (c_X9_lickGlass_x X M hi a ha b hb ta tb n P L F Z m z tv pub) rfl ⟨_, _, _, rfl, rfl, rfl⟩ (by decide) (by decide) rfl (Nat.le_of_ble_eq_true rfl) (fun z2 M3 q1 => ?_)
  obtain ⟨iM3, fM30, eM3_2_5, eM3_1_2, eM3_1_4, eM3_1_6, eM3_11_5, eM3_10_2, eM3_10_4, eM3_10_6, eM3_20_5, eM3_19_2, eM3_19_4, eM3_19_6, eM3_29_0, eM3_29_1, eM3_31_1, eM3_0_11, eM3_0_12, eM3_0_13, eM3_0_10, pM3⟩ := q1
  have fM3 : Fr (fun c => (2 ≤ c ∧ c ≤ 6) ∨ c = 0 ∨ c = 96) M M3 := Fr.tr Fr.rf fM30 fi_9
  have q2_5_M3 : id (M3 2 5 = M 2 5) := eM3_2_5
  have q1_2_M3 : id (M3 1 2 = M 1 2) := eM3_1_2
  have q1_4_M3 : id (M3 1 4 = M 1 4) := eM3_1_4
  have q1_6_M3 : id (M3 1 6 = M 1 6) := eM3_1_6
  have q11_5_M3 : id (M3 11 5 = M 11 5) := eM3_11_5
  have q10_2_M3 : id (M3 10 2 = M 10 2) := eM3_10_2
  have q10_4_M3 : id (M3 10 4 = M 10 4) := eM3_10_4
  have q10_6_M3 : id (M3 10 6 = M 10 6) := eM3_10_6
  have q20_5_M3 : id (M3 20 5 = M 20 5) := eM3_20_5
  have q19_2_M3 : id (M3 19 2 = M 19 2) := eM3_19_2
  have q19_4_M3 : id (M3 19 4 = M 19 4) := eM3_19_4
  have q19_6_M3 : id (M3 19 6 = M 19 6) := eM3_19_6
  have q29_0_M3 : id (M3 29 0 = M 29 0) := eM3_29_0
  have q29_1_M3 : id (M3 29 1 = M 29 1) := eM3_29_1
  have q31_1_M3 : id (M3 31 1 = M 31 1) := eM3_31_1
  have q0_11_M3 : id (M3 0 11 = M 0 11) := eM3_0_11
  have q0_12_M3 : id (M3 0 12 = M 0 12) := eM3_0_12
  have q0_13_M3 : id (M3 0 13 = M 0 13) := eM3_0_13
  have q0_10_M3 : (M3 0 10 = M 0 10) := eM3_0_10
  have wM3_0_10 : M3 0 10 = M 0 10 := eM3_0_10
  clear eM3_2_5 eM3_1_2 eM3_1_4 eM3_1_6 eM3_11_5 eM3_10_2 eM3_10_4 eM3_10_6 eM3_20_5 eM3_19_2 eM3_19_4 eM3_19_6 eM3_29_0 eM3_29_1 eM3_31_1 eM3_0_11 eM3_0_12 eM3_0_13
  obtain ⟨prM3, pgM3⟩ := pM3
  have e96M3 := fM30 96 (by first | decide | omega | (dsimp only; omega))
  refine g_callVi (pc' := 10) (As := [vi z2]) (b := 0) (S := []) dX9_lick_7 rfl m_X9_79 w_X9_answered (c_X9_answered_x X M3 iM3 z2 ⟨by omega, by omega⟩) rfl ⟨_, _, _, rfl, rfl, rfl⟩ (by decide) (by decide) rfl (Nat.le_of_ble_eq_true rfl) (fun z5 M6 q4 => ?_)
  obtain ⟨iM6, fM60, eM6_2_5, eM6_1_2, eM6_1_4, eM6_1_6, eM6_11_5, eM6_10_2, eM6_10_4, eM6_10_6, eM6_20_5, eM6_19_2, eM6_19_4, eM6_19_6, eM6_29_0, eM6_29_1, eM6_31_1, eM6_0_11, eM6_0_12, eM6_0_13, pM6⟩ := q4
  have fM6 : Fr (fun c => (2 ≤ c ∧ c ≤ 6) ∨ c = 0 ∨ c = 96) M M6 := Fr.tr fM3 fM60 fi_10
  have q2_5_M6 : id (M6 2 5 = M 2 5) := eM6_2_5.trans q2_5_M3
  have q1_2_M6 : id (M6 1 2 = M 1 2) := eM6_1_2.trans q1_2_M3
  have q1_4_M6 : id (M6 1 4 = M 1 4) := eM6_1_4.trans q1_4_M3
  have q1_6_M6 : id (M6 1 6 = M 1 6) := eM6_1_6.trans q1_6_M3
  have q11_5_M6 : id (M6 11 5 = M 11 5) := eM6_11_5.trans q11_5_M3
  have q10_2_M6 : id (M6 10 2 = M 10 2) := eM6_10_2.trans q10_2_M3
  have q10_4_M6 : id (M6 10 4 = M 10 4) := eM6_10_4.trans q10_4_M3
  have q10_6_M6 : id (M6 10 6 = M 10 6) := eM6_10_6.trans q10_6_M3
  have q20_5_M6 : id (M6 20 5 = M 20 5) := eM6_20_5.trans q20_5_M3
  have q19_2_M6 : id (M6 19 2 = M 19 2) := eM6_19_2.trans q19_2_M3
  have q19_4_M6 : id (M6 19 4 = M 19 4) := eM6_19_4.trans q19_4_M3
  have q19_6_M6 : id (M6 19 6 = M 19 6) := eM6_19_6.trans q19_6_M3
  have q29_0_M6 : id (M6 29 0 = M 29 0) := eM6_29_0.trans q29_0_M3
  have q29_1_M6 : id (M6 29 1 = M 29 1) := eM6_29_1.trans q29_1_M3
  have q31_1_M6 : id (M6 31 1 = M 31 1) := eM6_31_1.trans q31_1_M3
  have q0_11_M6 : id (M6 0 11 = M 0 11) := eM6_0_11.trans q0_11_M3
  have q0_12_M6 : id (M6 0 12 = M 0 12) := eM6_0_12.trans q0_12_M3
  have q0_13_M6 : id (M6 0 13 = M 0 13) := eM6_0_13.trans q0_13_M3
  clear eM6_2_5 eM6_1_2 eM6_1_4 eM6_1_6 eM6_11_5 eM6_10_2 eM6_10_4 eM6_10_6 eM6_20_5 eM6_19_2 eM6_19_4 eM6_19_6 eM6_29_0 eM6_29_1 eM6_31_1 eM6_0_11 eM6_0_12 eM6_0_13
  obtain ⟨anM6, asM6, a96M6⟩ := pM6
  rw [e96M3] at a96M6
  subst anM6
  have faM6 := fM60
  refine g_ireturn dX9_lick_10 ?_
  exact ⟨iM6, fM6, q2_5_M6, q1_2_M6, q1_4_M6, q1_6_M6, q11_5_M6, q10_2_M6, q10_4_M6, q10_6_M6, q20_5_M6, q19_2_M6, q19_4_M6, q19_6_M6, q29_0_M6, q29_1_M6, q31_1_M6, q0_11_M6, q0_12_M6, q0_13_M6, prM3, fun r1 m1 pi1 h => (by
      obtain ⟨q1, a1, b1, P1, L1, F1, Z1, t1, p1⟩ := pgM3 r1 m1 pi1 h
      exact ⟨q1, a1, b1, P1, L1, F1, Z1, t1.far faM6 (fun c z => by unfold inT; first | omega | (dsimp only at z; omega)), p1⟩), asM6, a96M6⟩
set_option maxHeartbeats 4000000 in
set_option maxRecDepth 100000 in
theorem c_X9_fillGlass_x (X : Cx) (M : Mm) (hi : IC M) (a : Int) (ha : inI a) (b : Int) (hb : inI b) (c : Int) (hc : inI c) (ta tb : Nat) (n : Int) (P : Nat → Int) (L : Int) (F Z m z : Nat → Int) (tv : TV M 2 ta tb n P L F Z) (pub : PUB n P L F Z m z) : Con X 3 yX9_fillGlass cX9_fillGlass 5 (some .int) [vr X 0, vi a, vi b, vi c] M (Qi (fun r M1 => IC M1 ∧ Fr (fun c => 2 ≤ c ∧ c ≤ 6) M M1 ∧ M1 2 5 = M 2 5 ∧ M1 1 2 = M 1 2 ∧ M1 1 4 = M 1 4 ∧ M1 1 6 = M 1 6 ∧ M1 11 5 = M 11 5 ∧ M1 10 2 = M 10 2 ∧ M1 10 4 = M 10 4 ∧ M1 10 6 = M 10 6 ∧ M1 20 5 = M 20 5 ∧ M1 19 2 = M 19 2 ∧ M1 19 4 = M 19 4 ∧ M1 19 6 = M 19 6 ∧ M1 29 0 = M 29 0 ∧ M1 29 1 = M 29 1 ∧ M1 31 1 = M 31 1 ∧ M1 0 11 = M 0 11 ∧ M1 0 12 = M 0 12 ∧ M1 0 13 = M 0 13 ∧ M1 0 10 = M 0 10 ∧ ((-6 ≤ r ∧ r ≤ 60) ∧ (∀ (r1 : Int) (m1 : Nat → Int), PI m1 → RFI m z n a b c r1 m1 → r = r1 ∧ PB M1 2 n m1 z)))) := by
  refine Con.ofG rfl (Nat.le_of_ble_eq_true rfl) ?_
  show G X 3 RX9 cX9_fillGlass 5 (some .int) (Qi (fun r M1 => IC M1 ∧ Fr (fun c => 2 ≤ c ∧ c ≤ 6) M M1 ∧ M1 2 5 = M 2 5 ∧ M1 1 2 = M 1 2 ∧ M1 1 4 = M 1 4 ∧ M1 1 6 = M 1 6 ∧ M1 11 5 = M 11 5 ∧ M1 10 2 = M 10 2 ∧ M1 10 4 = M 10 4 ∧ M1 10 6 = M 10 6 ∧ M1 20 5 = M 20 5 ∧ M1 19 2 = M 19 2 ∧ M1 19 4 = M 19 4 ∧ M1 19 6 = M 19 6 ∧ M1 29 0 = M 29 0 ∧ M1 29 1 = M 29 1 ∧ M1 31 1 = M 31 1 ∧ M1 0 11 = M 0 11 ∧ M1 0 12 = M 0 12 ∧ M1 0 13 = M 0 13 ∧ M1 0 10 = M 0 10 ∧ ((-6 ≤ r ∧ r ≤ 60) ∧ (∀ (r1 : Int) (m1 : Nat → Int), PI m1 → RFI m z n a b c r1 m1 → r = r1 ∧ PB M1 2 n m1 z)))) 0 [(0, vr X 0), (1, vi a), (2, vi b), (3, vi c)] [] M
  have tn := tv.2.2.1
  have ctn := pub.1.1
  refine g_iload_n (pc' := 1) 2 dX9_fillGlass_0 rfl rfl ?_
  refine g_callSip (pc' := 4) (As := [vi b]) (S := []) dX9_fillGlass_1 rfl m_X9_101 w_X9_isStuff (c_X9_isStuff X M b hb) rfl (by decide) (by decide) rfl (Nat.le_of_ble_eq_true rfl) (fun z2 q1 => ?_)
  refine g_if_eq (pc' := 7) (tgt := 14) ⟨by omega, by omega⟩ dX9_fillGlass_4 rfl rfl (fun c3 => ?_) (fun c3 => ?_)
  · replace q1 := q1.resolve_left (fun h => absurd (c3.symm.trans h.1) (by decide))
    refine g_iconst (pc' := 15) dX9_fillGlass_14 rfl ?_
    refine g_ireturn dX9_fillGlass_15 ?_
    exact ⟨hi, Fr.rf, rfl, rfl, rfl, rfl, rfl, rfl, rfl, rfl, rfl, rfl, rfl, rfl, rfl, rfl, rfl, rfl, rfl, rfl, rfl, by omega, fun r1 m1 pi1 h => (by
        have q := FIN.bad pub (by omega) h
        exact ⟨(by omega), ta, tb, P, L, F, Z, tv, q.2⟩)⟩
  · replace q1 := q1.resolve_right (fun h => c3 h.1)
    refine g_iload_n (pc' := 8) 3 dX9_fillGlass_7 rfl rfl ?_
    refine g_callSip (pc' := 11) (As := [vi c]) (S := []) dX9_fillGlass_8 rfl m_X9_82 w_X9_isAmount (c_X9_isAmount X M c hc) rfl (by decide) (by decide) rfl (Nat.le_of_ble_eq_true rfl) (fun z5 q4 => ?_)
    refine g_if_ne (pc' := 14) (tgt := 16) ⟨by omega, by omega⟩ dX9_fillGlass_11 rfl rfl (fun c6 => ?_) (fun c6 => ?_)
    · replace q4 := q4.resolve_right (fun h => c6 h.1)
      refine g_aload_n (pc' := 17) 0 dX9_fillGlass_16 rfl rfl ?_
      refine g_getR (pc' := 20) dX9_fillGlass_17 rfl f_X9_12 rfl rfl ?_
      refine g_getR (pc' := 23) dX9_fillGlass_20 rfl f_X9_86 rfl rfl ?_
      refine g_iload_n (pc' := 24) 1 dX9_fillGlass_23 rfl rfl ?_
      refine g_callVip (pc' := 27) (As := [vi a]) (b := 2) (S := []) dX9_fillGlass_24 rfl m_X9_92 w_X7_has (c_X7_has X M 2 isT_2 (hi.1 _ isT_2) a ha) rfl ⟨_, _, _, rfl, rfl, rfl⟩ (by decide) (by decide) rfl (Nat.le_of_ble_eq_true rfl) (fun z8 q7 => ?_)
      refine g_if_ne (pc' := 30) (tgt := 33) ⟨by omega, by omega⟩ dX9_fillGlass_27 rfl rfl (fun c9 => ?_) (fun c9 => ?_)
      · replace q7 := q7.resolve_right (fun h => c9 h.1)
        refine g_aload_n (pc' := 34) 0 dX9_fillGlass_33 rfl rfl ?_
        refine g_getR (pc' := 37) dX9_fillGlass_34 rfl f_X9_12 rfl rfl ?_
        refine g_getR (pc' := 40) dX9_fillGlass_37 rfl f_X9_86 rfl rfl ?_
        refine g_iload_n (pc' := 41) 1 dX9_fillGlass_40 rfl rfl ?_
        refine g_iload_n (pc' := 42) 2 dX9_fillGlass_41 rfl rfl ?_
        refine g_iload_n (pc' := 43) 3 dX9_fillGlass_42 rfl rfl ?_
        refine g_callVi (pc' := 46) (As := [vi a, vi b, vi c]) (b := 2) (S := []) dX9_fillGlass_43 rfl m_X9_122 w_X7_pour (c_X7_pour_x X M 2 isT_2 (hi.1 _ isT_2) a ha b hb c hc ta tb n P L F Z tv pub.1.ct) rfl ⟨_, _, _, rfl, rfl, rfl⟩ (by decide) (by decide) rfl (Nat.le_of_ble_eq_true rfl) (fun z11 M12 q10 => ?_)
        obtain ⟨kM12, fM120, gM120, pM12⟩ := q10
        have iM12 : IC M12 := IC.ofT hi isT_2 fM120 kM12
        have fM12 : Fr (fun c => 2 ≤ c ∧ c ≤ 6) M M12 := Fr.tr Fr.rf fM120 (fun c z => by unfold inT at z; first | omega | (dsimp only; omega))
        have q2_5_M12 : id (M12 2 5 = M 2 5) := gM120
        have q1_2_M12 : id (M12 1 2 = M 1 2) := (congrFun (fM120 1 (by unfold inT; first | decide | omega)) 2)
        have q1_4_M12 : id (M12 1 4 = M 1 4) := (congrFun (fM120 1 (by unfold inT; first | decide | omega)) 4)
        have q1_6_M12 : id (M12 1 6 = M 1 6) := (congrFun (fM120 1 (by unfold inT; first | decide | omega)) 6)
        have q11_5_M12 : id (M12 11 5 = M 11 5) := (congrFun (fM120 11 (by unfold inT; first | decide | omega)) 5)
        have q10_2_M12 : id (M12 10 2 = M 10 2) := (congrFun (fM120 10 (by unfold inT; first | decide | omega)) 2)
        have q10_4_M12 : id (M12 10 4 = M 10 4) := (congrFun (fM120 10 (by unfold inT; first | decide | omega)) 4)
        have q10_6_M12 : id (M12 10 6 = M 10 6) := (congrFun (fM120 10 (by unfold inT; first | decide | omega)) 6)
        have q20_5_M12 : id (M12 20 5 = M 20 5) := (congrFun (fM120 20 (by unfold inT; first | decide | omega)) 5)
        have q19_2_M12 : id (M12 19 2 = M 19 2) := (congrFun (fM120 19 (by unfold inT; first | decide | omega)) 2)
        have q19_4_M12 : id (M12 19 4 = M 19 4) := (congrFun (fM120 19 (by unfold inT; first | decide | omega)) 4)
        have q19_6_M12 : id (M12 19 6 = M 19 6) := (congrFun (fM120 19 (by unfold inT; first | decide | omega)) 6)
        have q29_0_M12 : id (M12 29 0 = M 29 0) := (congrFun (fM120 29 (by unfold inT; first | decide | omega)) 0)
        have q29_1_M12 : id (M12 29 1 = M 29 1) := (congrFun (fM120 29 (by unfold inT; first | decide | omega)) 1)
        have q31_1_M12 : id (M12 31 1 = M 31 1) := (congrFun (fM120 31 (by unfold inT; first | decide | omega)) 1)
        have q0_11_M12 : id (M12 0 11 = M 0 11) := (congrFun (fM120 0 (by unfold inT; first | decide | omega)) 11)
        have q0_12_M12 : id (M12 0 12 = M 0 12) := (congrFun (fM120 0 (by unfold inT; first | decide | omega)) 12)
        have q0_13_M12 : id (M12 0 13 = M 0 13) := (congrFun (fM120 0 (by unfold inT; first | decide | omega)) 13)
        have q0_10_M12 : id (M12 0 10 = M 0 10) := (congrFun (fM120 0 (by unfold inT; first | decide | omega)) 10)
        obtain ⟨PM12, FM12, tvM12, poM12⟩ := pM12
        have tnM12 := tvM12.2.2.1
        have rrM12 := poM12.r
        refine g_istore (pc' := 48) (L' := [(4, vi z11), (0, vr X 0), (1, vi a), (2, vi b), (3, vi c)]) dX9_fillGlass_46 rfl (by decide) rfl ?_
        refine g_iload (pc' := 50) 0 dX9_fillGlass_48 rfl rfl ?_
        refine g_if_ge (pc' := 53) (tgt := 58) ⟨by omega, by omega⟩ dX9_fillGlass_50 rfl rfl (fun c13 => ?_) (fun c13 => ?_)
        · refine g_aload_n (pc' := 59) 1 dX9_fillGlass_58 rfl rfl ?_
          refine g_getR (pc' := 62) dX9_fillGlass_59 rfl f_X9_12 rfl rfl ?_
          refine g_getR (pc' := 65) dX9_fillGlass_62 rfl f_X9_86 rfl rfl ?_
          refine g_iload_n (pc' := 66) 2 dX9_fillGlass_65 rfl rfl ?_
          refine g_callVip (pc' := 69) (As := [vi a]) (b := 2) (S := []) dX9_fillGlass_66 rfl m_X9_98 w_X7_fullOf (c_X7_fullOf_x X M12 2 isT_2 (iM12.1 _ isT_2) a ha ta tb n PM12 L FM12 Z tvM12 (POU.ct pub.1 poM12)) rfl ⟨_, _, _, rfl, rfl, rfl⟩ (by decide) (by decide) rfl (Nat.le_of_ble_eq_true rfl) (fun z15 q14 => ?_)
          have q14a := q14.1
          have q14b := q14.2
          unfold szQ at q14b
          clear q14
          refine g_ireturn dX9_fillGlass_69 ?_
          exact ⟨iM12, fM12, q2_5_M12, q1_2_M12, q1_4_M12, q1_6_M12, q11_5_M12, q10_2_M12, q10_4_M12, q10_6_M12, q20_5_M12, q19_2_M12, q19_4_M12, q19_6_M12, q29_0_M12, q29_1_M12, q31_1_M12, q0_11_M12, q0_12_M12, q0_13_M12, q0_10_M12, by omega, fun r1 m1 pi1 h => (by
              have q := (by
                have y := FIN.go pub pi1 (by omega) (by omega) poM12 h
                rw [if_neg (by omega)] at y
                exact y)
              exact ⟨(by omega), ta, tb, PM12, L, FM12, Z, tvM12, q.2⟩)⟩
        · refine g_iload (pc' := 55) 0 dX9_fillGlass_53 rfl rfl ?_
          refine g_goto (tgt := 69) dX9_fillGlass_55 rfl ?_
          refine g_ireturn dX9_fillGlass_69 ?_
          exact ⟨iM12, fM12, q2_5_M12, q1_2_M12, q1_4_M12, q1_6_M12, q11_5_M12, q10_2_M12, q10_4_M12, q10_6_M12, q20_5_M12, q19_2_M12, q19_4_M12, q19_6_M12, q29_0_M12, q29_1_M12, q31_1_M12, q0_11_M12, q0_12_M12, q0_13_M12, q0_10_M12, by omega, fun r1 m1 pi1 h => (by
              have q := (by
                have y := FIN.go pub pi1 (by omega) (by omega) poM12 h
                rw [if_pos (by omega)] at y
                exact y)
              exact ⟨(by omega), ta, tb, PM12, L, FM12, Z, tvM12, q.2⟩)⟩
      · replace q7 := q7.resolve_left (fun h => absurd (c9.symm.trans h.1) (by decide))
        refine g_bipush (pc' := 32) (v := (-2)) dX9_fillGlass_30 rfl (by decide) ?_
        refine g_ireturn dX9_fillGlass_32 ?_
        exact ⟨hi, Fr.rf, rfl, rfl, rfl, rfl, rfl, rfl, rfl, rfl, rfl, rfl, rfl, rfl, rfl, rfl, rfl, rfl, rfl, rfl, rfl, by omega, fun r1 m1 pi1 h => (by
            have q := FIN.none pub (by omega) (by omega) h
            exact ⟨(by omega), ta, tb, P, L, F, Z, tv, q.2⟩)⟩
    · replace q4 := q4.resolve_left (fun h => absurd (c6.symm.trans h.1) (by decide))
      refine g_iconst (pc' := 15) dX9_fillGlass_14 rfl ?_
      refine g_ireturn dX9_fillGlass_15 ?_
      exact ⟨hi, Fr.rf, rfl, rfl, rfl, rfl, rfl, rfl, rfl, rfl, rfl, rfl, rfl, rfl, rfl, rfl, rfl, rfl, rfl, rfl, rfl, by omega, fun r1 m1 pi1 h => (by
          have q := FIN.bad pub (by omega) h
          exact ⟨(by omega), ta, tb, P, L, F, Z, tv, q.2⟩)⟩
set_option maxHeartbeats 4000000 in
set_option maxRecDepth 100000 in
theorem c_X9_fill_x (X : Cx) (M : Mm) (hi : IC M) (a : Int) (ha : inI a) (b : Int) (hb : inI b) (c : Int) (hc : inI c) (ta tb : Nat) (n : Int) (P : Nat → Int) (L : Int) (F Z m z : Nat → Int) (tv : TV M 2 ta tb n P L F Z) (pub : PUB n P L F Z m z) : Con X 4 yX9_fill cX9_fill 4 (some .int) [vr X 0, vi a, vi b, vi c] M (Qi (fun r M1 => IC M1 ∧ Fr (fun c => (2 ≤ c ∧ c ≤ 6) ∨ c = 0 ∨ c = 96) M M1 ∧ M1 2 5 = M 2 5 ∧ M1 1 2 = M 1 2 ∧ M1 1 4 = M 1 4 ∧ M1 1 6 = M 1 6 ∧ M1 11 5 = M 11 5 ∧ M1 10 2 = M 10 2 ∧ M1 10 4 = M 10 4 ∧ M1 10 6 = M 10 6 ∧ M1 20 5 = M 20 5 ∧ M1 19 2 = M 19 2 ∧ M1 19 4 = M 19 4 ∧ M1 19 6 = M 19 6 ∧ M1 29 0 = M 29 0 ∧ M1 29 1 = M 29 1 ∧ M1 31 1 = M 31 1 ∧ M1 0 11 = M 0 11 ∧ M1 0 12 = M 0 12 ∧ M1 0 13 = M 0 13 ∧ ((-6 ≤ r ∧ r ≤ 60) ∧ (∀ (r1 : Int) (m1 : Nat → Int), PI m1 → RFI m z n a b c r1 m1 → r = r1 ∧ PB M1 2 n m1 z) ∧ M1 0 10 = ngv r ∧ M1 96 = ansF (M 96) r))) := by
  refine Con.ofG rfl (Nat.le_of_ble_eq_true rfl) ?_
  show G X 4 RX9 cX9_fill 4 (some .int) (Qi (fun r M1 => IC M1 ∧ Fr (fun c => (2 ≤ c ∧ c ≤ 6) ∨ c = 0 ∨ c = 96) M M1 ∧ M1 2 5 = M 2 5 ∧ M1 1 2 = M 1 2 ∧ M1 1 4 = M 1 4 ∧ M1 1 6 = M 1 6 ∧ M1 11 5 = M 11 5 ∧ M1 10 2 = M 10 2 ∧ M1 10 4 = M 10 4 ∧ M1 10 6 = M 10 6 ∧ M1 20 5 = M 20 5 ∧ M1 19 2 = M 19 2 ∧ M1 19 4 = M 19 4 ∧ M1 19 6 = M 19 6 ∧ M1 29 0 = M 29 0 ∧ M1 29 1 = M 29 1 ∧ M1 31 1 = M 31 1 ∧ M1 0 11 = M 0 11 ∧ M1 0 12 = M 0 12 ∧ M1 0 13 = M 0 13 ∧ ((-6 ≤ r ∧ r ≤ 60) ∧ (∀ (r1 : Int) (m1 : Nat → Int), PI m1 → RFI m z n a b c r1 m1 → r = r1 ∧ PB M1 2 n m1 z) ∧ M1 0 10 = ngv r ∧ M1 96 = ansF (M 96) r))) 0 [(0, vr X 0), (1, vi a), (2, vi b), (3, vi c)] [] M
  have tn := tv.2.2.1
  have ctn := pub.1.1
  refine g_aload_n (pc' := 1) 0 dX9_fill_0 rfl rfl ?_
  refine g_aload_n (pc' := 2) 0 dX9_fill_1 rfl rfl ?_
  refine g_iload_n (pc' := 3) 1 dX9_fill_2 rfl rfl ?_
  refine g_iload_n (pc' := 4) 2 dX9_fill_3 rfl rfl ?_
  refine g_iload_n (pc' := 5) 3 dX9_fill_4 rfl rfl ?_
  refine g_callVi (pc' := 8) (As := [vi a, vi b, vi c]) (b := 0) (S := [vr X 0]) dX9_fill_5 rfl m_X9_118 w_X9_fillGlass (c_X9_fillGlass_x X M hi a ha b hb c hc ta tb n P L F Z m z tv pub) rfl ⟨_, _, _, rfl, rfl, rfl⟩ (by decide) (by decide) rfl (Nat.le_of_ble_eq_true rfl) (fun z2 M3 q1 => ?_)
  obtain ⟨iM3, fM30, eM3_2_5, eM3_1_2, eM3_1_4, eM3_1_6, eM3_11_5, eM3_10_2, eM3_10_4, eM3_10_6, eM3_20_5, eM3_19_2, eM3_19_4, eM3_19_6, eM3_29_0, eM3_29_1, eM3_31_1, eM3_0_11, eM3_0_12, eM3_0_13, eM3_0_10, pM3⟩ := q1
  have fM3 : Fr (fun c => (2 ≤ c ∧ c ≤ 6) ∨ c = 0 ∨ c = 96) M M3 := Fr.tr Fr.rf fM30 fi_9
  have q2_5_M3 : id (M3 2 5 = M 2 5) := eM3_2_5
  have q1_2_M3 : id (M3 1 2 = M 1 2) := eM3_1_2
  have q1_4_M3 : id (M3 1 4 = M 1 4) := eM3_1_4
  have q1_6_M3 : id (M3 1 6 = M 1 6) := eM3_1_6
  have q11_5_M3 : id (M3 11 5 = M 11 5) := eM3_11_5
  have q10_2_M3 : id (M3 10 2 = M 10 2) := eM3_10_2
  have q10_4_M3 : id (M3 10 4 = M 10 4) := eM3_10_4
  have q10_6_M3 : id (M3 10 6 = M 10 6) := eM3_10_6
  have q20_5_M3 : id (M3 20 5 = M 20 5) := eM3_20_5
  have q19_2_M3 : id (M3 19 2 = M 19 2) := eM3_19_2
  have q19_4_M3 : id (M3 19 4 = M 19 4) := eM3_19_4
  have q19_6_M3 : id (M3 19 6 = M 19 6) := eM3_19_6
  have q29_0_M3 : id (M3 29 0 = M 29 0) := eM3_29_0
  have q29_1_M3 : id (M3 29 1 = M 29 1) := eM3_29_1
  have q31_1_M3 : id (M3 31 1 = M 31 1) := eM3_31_1
  have q0_11_M3 : id (M3 0 11 = M 0 11) := eM3_0_11
  have q0_12_M3 : id (M3 0 12 = M 0 12) := eM3_0_12
  have q0_13_M3 : id (M3 0 13 = M 0 13) := eM3_0_13
  have q0_10_M3 : (M3 0 10 = M 0 10) := eM3_0_10
  have wM3_0_10 : M3 0 10 = M 0 10 := eM3_0_10
  clear eM3_2_5 eM3_1_2 eM3_1_4 eM3_1_6 eM3_11_5 eM3_10_2 eM3_10_4 eM3_10_6 eM3_20_5 eM3_19_2 eM3_19_4 eM3_19_6 eM3_29_0 eM3_29_1 eM3_31_1 eM3_0_11 eM3_0_12 eM3_0_13
  obtain ⟨prM3, pgM3⟩ := pM3
  have e96M3 := fM30 96 (by first | decide | omega | (dsimp only; omega))
  refine g_callVi (pc' := 11) (As := [vi z2]) (b := 0) (S := []) dX9_fill_8 rfl m_X9_79 w_X9_answered (c_X9_answered_x X M3 iM3 z2 ⟨by omega, by omega⟩) rfl ⟨_, _, _, rfl, rfl, rfl⟩ (by decide) (by decide) rfl (Nat.le_of_ble_eq_true rfl) (fun z5 M6 q4 => ?_)
  obtain ⟨iM6, fM60, eM6_2_5, eM6_1_2, eM6_1_4, eM6_1_6, eM6_11_5, eM6_10_2, eM6_10_4, eM6_10_6, eM6_20_5, eM6_19_2, eM6_19_4, eM6_19_6, eM6_29_0, eM6_29_1, eM6_31_1, eM6_0_11, eM6_0_12, eM6_0_13, pM6⟩ := q4
  have fM6 : Fr (fun c => (2 ≤ c ∧ c ≤ 6) ∨ c = 0 ∨ c = 96) M M6 := Fr.tr fM3 fM60 fi_10
  have q2_5_M6 : id (M6 2 5 = M 2 5) := eM6_2_5.trans q2_5_M3
  have q1_2_M6 : id (M6 1 2 = M 1 2) := eM6_1_2.trans q1_2_M3
  have q1_4_M6 : id (M6 1 4 = M 1 4) := eM6_1_4.trans q1_4_M3
  have q1_6_M6 : id (M6 1 6 = M 1 6) := eM6_1_6.trans q1_6_M3
  have q11_5_M6 : id (M6 11 5 = M 11 5) := eM6_11_5.trans q11_5_M3
  have q10_2_M6 : id (M6 10 2 = M 10 2) := eM6_10_2.trans q10_2_M3
  have q10_4_M6 : id (M6 10 4 = M 10 4) := eM6_10_4.trans q10_4_M3
  have q10_6_M6 : id (M6 10 6 = M 10 6) := eM6_10_6.trans q10_6_M3
  have q20_5_M6 : id (M6 20 5 = M 20 5) := eM6_20_5.trans q20_5_M3
  have q19_2_M6 : id (M6 19 2 = M 19 2) := eM6_19_2.trans q19_2_M3
  have q19_4_M6 : id (M6 19 4 = M 19 4) := eM6_19_4.trans q19_4_M3
  have q19_6_M6 : id (M6 19 6 = M 19 6) := eM6_19_6.trans q19_6_M3
  have q29_0_M6 : id (M6 29 0 = M 29 0) := eM6_29_0.trans q29_0_M3
  have q29_1_M6 : id (M6 29 1 = M 29 1) := eM6_29_1.trans q29_1_M3
  have q31_1_M6 : id (M6 31 1 = M 31 1) := eM6_31_1.trans q31_1_M3
  have q0_11_M6 : id (M6 0 11 = M 0 11) := eM6_0_11.trans q0_11_M3
  have q0_12_M6 : id (M6 0 12 = M 0 12) := eM6_0_12.trans q0_12_M3
  have q0_13_M6 : id (M6 0 13 = M 0 13) := eM6_0_13.trans q0_13_M3
  clear eM6_2_5 eM6_1_2 eM6_1_4 eM6_1_6 eM6_11_5 eM6_10_2 eM6_10_4 eM6_10_6 eM6_20_5 eM6_19_2 eM6_19_4 eM6_19_6 eM6_29_0 eM6_29_1 eM6_31_1 eM6_0_11 eM6_0_12 eM6_0_13
  obtain ⟨anM6, asM6, a96M6⟩ := pM6
  rw [e96M3] at a96M6
  subst anM6
  have faM6 := fM60
  refine g_ireturn dX9_fill_11 ?_
  exact ⟨iM6, fM6, q2_5_M6, q1_2_M6, q1_4_M6, q1_6_M6, q11_5_M6, q10_2_M6, q10_4_M6, q10_6_M6, q20_5_M6, q19_2_M6, q19_4_M6, q19_6_M6, q29_0_M6, q29_1_M6, q31_1_M6, q0_11_M6, q0_12_M6, q0_13_M6, prM3, fun r1 m1 pi1 h => (by
      obtain ⟨q1, a1, b1, P1, L1, F1, Z1, t1, p1⟩ := pgM3 r1 m1 pi1 h
      exact ⟨q1, a1, b1, P1, L1, F1, Z1, t1.far faM6 (fun c z => by unfold inT; first | omega | (dsimp only at z; omega)), p1⟩), asM6, a96M6⟩
set_option maxHeartbeats 4000000 in
set_option maxRecDepth 100000 in
theorem c_X9_emptyGlass_x (X : Cx) (M : Mm) (hi : IC M) (a : Int) (ha : inI a) (ta tb : Nat) (n : Int) (P : Nat → Int) (L : Int) (F Z m z : Nat → Int) (tv : TV M 2 ta tb n P L F Z) (pub : PUB n P L F Z m z) : Con X 3 yX9_emptyGlass cX9_emptyGlass 3 (some .int) [vr X 0, vi a] M (Qi (fun r M1 => IC M1 ∧ Fr (fun c => 2 ≤ c ∧ c ≤ 6) M M1 ∧ M1 2 5 = M 2 5 ∧ M1 1 2 = M 1 2 ∧ M1 1 4 = M 1 4 ∧ M1 1 6 = M 1 6 ∧ M1 11 5 = M 11 5 ∧ M1 10 2 = M 10 2 ∧ M1 10 4 = M 10 4 ∧ M1 10 6 = M 10 6 ∧ M1 20 5 = M 20 5 ∧ M1 19 2 = M 19 2 ∧ M1 19 4 = M 19 4 ∧ M1 19 6 = M 19 6 ∧ M1 29 0 = M 29 0 ∧ M1 29 1 = M 29 1 ∧ M1 31 1 = M 31 1 ∧ M1 0 11 = M 0 11 ∧ M1 0 12 = M 0 12 ∧ M1 0 13 = M 0 13 ∧ M1 0 10 = M 0 10 ∧ ((-6 ≤ r ∧ r ≤ 60) ∧ (∀ (r1 : Int) (m1 : Nat → Int), PI m1 → REM m n a r1 m1 → r = r1 ∧ PB M1 2 n m1 z)))) := by
  refine Con.ofG rfl (Nat.le_of_ble_eq_true rfl) ?_
  show G X 3 RX9 cX9_emptyGlass 3 (some .int) (Qi (fun r M1 => IC M1 ∧ Fr (fun c => 2 ≤ c ∧ c ≤ 6) M M1 ∧ M1 2 5 = M 2 5 ∧ M1 1 2 = M 1 2 ∧ M1 1 4 = M 1 4 ∧ M1 1 6 = M 1 6 ∧ M1 11 5 = M 11 5 ∧ M1 10 2 = M 10 2 ∧ M1 10 4 = M 10 4 ∧ M1 10 6 = M 10 6 ∧ M1 20 5 = M 20 5 ∧ M1 19 2 = M 19 2 ∧ M1 19 4 = M 19 4 ∧ M1 19 6 = M 19 6 ∧ M1 29 0 = M 29 0 ∧ M1 29 1 = M 29 1 ∧ M1 31 1 = M 31 1 ∧ M1 0 11 = M 0 11 ∧ M1 0 12 = M 0 12 ∧ M1 0 13 = M 0 13 ∧ M1 0 10 = M 0 10 ∧ ((-6 ≤ r ∧ r ≤ 60) ∧ (∀ (r1 : Int) (m1 : Nat → Int), PI m1 → REM m n a r1 m1 → r = r1 ∧ PB M1 2 n m1 z)))) 0 [(0, vr X 0), (1, vi a)] [] M
  have tn := tv.2.2.1
  have ctn := pub.1.1
  refine g_aload_n (pc' := 1) 0 dX9_emptyGlass_0 rfl rfl ?_
  refine g_getR (pc' := 4) dX9_emptyGlass_1 rfl f_X9_12 rfl rfl ?_
  refine g_getR (pc' := 7) dX9_emptyGlass_4 rfl f_X9_86 rfl rfl ?_
  refine g_iload_n (pc' := 8) 1 dX9_emptyGlass_7 rfl rfl ?_
  refine g_callVip (pc' := 11) (As := [vi a]) (b := 2) (S := []) dX9_emptyGlass_8 rfl m_X9_92 w_X7_has (c_X7_has X M 2 isT_2 (hi.1 _ isT_2) a ha) rfl ⟨_, _, _, rfl, rfl, rfl⟩ (by decide) (by decide) rfl (Nat.le_of_ble_eq_true rfl) (fun z2 q1 => ?_)
  refine g_if_ne (pc' := 14) (tgt := 17) ⟨by omega, by omega⟩ dX9_emptyGlass_11 rfl rfl (fun c3 => ?_) (fun c3 => ?_)
  · replace q1 := q1.resolve_right (fun h => c3 h.1)
    refine g_aload_n (pc' := 18) 0 dX9_emptyGlass_17 rfl rfl ?_
    refine g_getR (pc' := 21) dX9_emptyGlass_18 rfl f_X9_12 rfl rfl ?_
    refine g_getR (pc' := 24) dX9_emptyGlass_21 rfl f_X9_86 rfl rfl ?_
    refine g_iload_n (pc' := 25) 1 dX9_emptyGlass_24 rfl rfl ?_
    refine g_callVip (pc' := 28) (As := [vi a]) (b := 2) (S := []) dX9_emptyGlass_25 rfl m_X9_98 w_X7_fullOf (c_X7_fullOf_x X M 2 isT_2 (hi.1 _ isT_2) a ha ta tb n P L F Z tv pub.1.ct) rfl ⟨_, _, _, rfl, rfl, rfl⟩ (by decide) (by decide) rfl (Nat.le_of_ble_eq_true rfl) (fun z5 q4 => ?_)
    have q4a := q4.1
    have q4b := q4.2
    unfold szQ at q4b
    clear q4
    refine g_istore_n (pc' := 29) (i := 2) (L' := [(2, vi z5), (0, vr X 0), (1, vi a)]) dX9_emptyGlass_28 rfl rfl (by decide) rfl ?_
    refine g_aload_n (pc' := 30) 1 dX9_emptyGlass_29 rfl rfl ?_
    refine g_getR (pc' := 33) dX9_emptyGlass_30 rfl f_X9_12 rfl rfl ?_
    refine g_getR (pc' := 36) dX9_emptyGlass_33 rfl f_X9_86 rfl rfl ?_
    refine g_iload_n (pc' := 37) 2 dX9_emptyGlass_36 rfl rfl ?_
    refine g_callVv (pc' := 40) (As := [vi a]) (b := 2) (S := []) dX9_emptyGlass_37 rfl m_X9_143 w_X7_clear (c_X7_clear_x X M 2 isT_2 (hi.1 _ isT_2) a ha ta tb n P L F Z tv ctn (by omega)) rfl ⟨_, _, _, rfl, rfl, rfl⟩ (by decide) (by decide) rfl (Nat.le_of_ble_eq_true rfl) (fun M7 q6 => ?_)
    obtain ⟨kM7, fM70, gM70, pM7⟩ := q6
    have iM7 : IC M7 := IC.ofT hi isT_2 fM70 kM7
    have fM7 : Fr (fun c => 2 ≤ c ∧ c ≤ 6) M M7 := Fr.tr Fr.rf fM70 (fun c z => by unfold inT at z; first | omega | (dsimp only; omega))
    have q2_5_M7 : id (M7 2 5 = M 2 5) := gM70
    have q1_2_M7 : id (M7 1 2 = M 1 2) := (congrFun (fM70 1 (by unfold inT; first | decide | omega)) 2)
    have q1_4_M7 : id (M7 1 4 = M 1 4) := (congrFun (fM70 1 (by unfold inT; first | decide | omega)) 4)
    have q1_6_M7 : id (M7 1 6 = M 1 6) := (congrFun (fM70 1 (by unfold inT; first | decide | omega)) 6)
    have q11_5_M7 : id (M7 11 5 = M 11 5) := (congrFun (fM70 11 (by unfold inT; first | decide | omega)) 5)
    have q10_2_M7 : id (M7 10 2 = M 10 2) := (congrFun (fM70 10 (by unfold inT; first | decide | omega)) 2)
    have q10_4_M7 : id (M7 10 4 = M 10 4) := (congrFun (fM70 10 (by unfold inT; first | decide | omega)) 4)
    have q10_6_M7 : id (M7 10 6 = M 10 6) := (congrFun (fM70 10 (by unfold inT; first | decide | omega)) 6)
    have q20_5_M7 : id (M7 20 5 = M 20 5) := (congrFun (fM70 20 (by unfold inT; first | decide | omega)) 5)
    have q19_2_M7 : id (M7 19 2 = M 19 2) := (congrFun (fM70 19 (by unfold inT; first | decide | omega)) 2)
    have q19_4_M7 : id (M7 19 4 = M 19 4) := (congrFun (fM70 19 (by unfold inT; first | decide | omega)) 4)
    have q19_6_M7 : id (M7 19 6 = M 19 6) := (congrFun (fM70 19 (by unfold inT; first | decide | omega)) 6)
    have q29_0_M7 : id (M7 29 0 = M 29 0) := (congrFun (fM70 29 (by unfold inT; first | decide | omega)) 0)
    have q29_1_M7 : id (M7 29 1 = M 29 1) := (congrFun (fM70 29 (by unfold inT; first | decide | omega)) 1)
    have q31_1_M7 : id (M7 31 1 = M 31 1) := (congrFun (fM70 31 (by unfold inT; first | decide | omega)) 1)
    have q0_11_M7 : id (M7 0 11 = M 0 11) := (congrFun (fM70 0 (by unfold inT; first | decide | omega)) 11)
    have q0_12_M7 : id (M7 0 12 = M 0 12) := (congrFun (fM70 0 (by unfold inT; first | decide | omega)) 12)
    have q0_13_M7 : id (M7 0 13 = M 0 13) := (congrFun (fM70 0 (by unfold inT; first | decide | omega)) 13)
    have q0_10_M7 : id (M7 0 10 = M 0 10) := (congrFun (fM70 0 (by unfold inT; first | decide | omega)) 10)
    obtain ⟨PM7, FM7, tvM7, clM7⟩ := pM7
    have tnM7 := tvM7.2.2.1
    refine g_aload_n (pc' := 41) 1 dX9_emptyGlass_40 rfl rfl ?_
    refine g_getR (pc' := 44) dX9_emptyGlass_41 rfl f_X9_12 rfl rfl ?_
    refine g_getR (pc' := 47) dX9_emptyGlass_44 rfl f_X9_86 rfl rfl ?_
    refine g_callVv (pc' := 50) (As := []) (b := 2) (S := []) dX9_emptyGlass_47 rfl m_X9_131 w_X7_toLowestTerms (c_X7_toLowestTerms_x X M7 2 isT_2 (iM7.1 _ isT_2) ta tb n PM7 L FM7 Z tvM7 (CLR.ct pub (by omega) clM7)) rfl ⟨_, _, _, rfl, rfl, rfl⟩ (by decide) (by decide) rfl (Nat.le_of_ble_eq_true rfl) (fun M9 q8 => ?_)
    obtain ⟨kM9, fM90, gM90, pM9⟩ := q8
    have iM9 : IC M9 := IC.ofT iM7 isT_2 fM90 kM9
    have fM9 : Fr (fun c => 2 ≤ c ∧ c ≤ 6) M M9 := Fr.tr fM7 fM90 (fun c z => by unfold inT at z; first | omega | (dsimp only; omega))
    have q2_5_M9 : id (M9 2 5 = M 2 5) := gM90.trans q2_5_M7
    have q1_2_M9 : id (M9 1 2 = M 1 2) := (congrFun (fM90 1 (by unfold inT; first | decide | omega)) 2).trans q1_2_M7
    have q1_4_M9 : id (M9 1 4 = M 1 4) := (congrFun (fM90 1 (by unfold inT; first | decide | omega)) 4).trans q1_4_M7
    have q1_6_M9 : id (M9 1 6 = M 1 6) := (congrFun (fM90 1 (by unfold inT; first | decide | omega)) 6).trans q1_6_M7
    have q11_5_M9 : id (M9 11 5 = M 11 5) := (congrFun (fM90 11 (by unfold inT; first | decide | omega)) 5).trans q11_5_M7
    have q10_2_M9 : id (M9 10 2 = M 10 2) := (congrFun (fM90 10 (by unfold inT; first | decide | omega)) 2).trans q10_2_M7
    have q10_4_M9 : id (M9 10 4 = M 10 4) := (congrFun (fM90 10 (by unfold inT; first | decide | omega)) 4).trans q10_4_M7
    have q10_6_M9 : id (M9 10 6 = M 10 6) := (congrFun (fM90 10 (by unfold inT; first | decide | omega)) 6).trans q10_6_M7
    have q20_5_M9 : id (M9 20 5 = M 20 5) := (congrFun (fM90 20 (by unfold inT; first | decide | omega)) 5).trans q20_5_M7
    have q19_2_M9 : id (M9 19 2 = M 19 2) := (congrFun (fM90 19 (by unfold inT; first | decide | omega)) 2).trans q19_2_M7
    have q19_4_M9 : id (M9 19 4 = M 19 4) := (congrFun (fM90 19 (by unfold inT; first | decide | omega)) 4).trans q19_4_M7
    have q19_6_M9 : id (M9 19 6 = M 19 6) := (congrFun (fM90 19 (by unfold inT; first | decide | omega)) 6).trans q19_6_M7
    have q29_0_M9 : id (M9 29 0 = M 29 0) := (congrFun (fM90 29 (by unfold inT; first | decide | omega)) 0).trans q29_0_M7
    have q29_1_M9 : id (M9 29 1 = M 29 1) := (congrFun (fM90 29 (by unfold inT; first | decide | omega)) 1).trans q29_1_M7
    have q31_1_M9 : id (M9 31 1 = M 31 1) := (congrFun (fM90 31 (by unfold inT; first | decide | omega)) 1).trans q31_1_M7
    have q0_11_M9 : id (M9 0 11 = M 0 11) := (congrFun (fM90 0 (by unfold inT; first | decide | omega)) 11).trans q0_11_M7
    have q0_12_M9 : id (M9 0 12 = M 0 12) := (congrFun (fM90 0 (by unfold inT; first | decide | omega)) 12).trans q0_12_M7
    have q0_13_M9 : id (M9 0 13 = M 0 13) := (congrFun (fM90 0 (by unfold inT; first | decide | omega)) 13).trans q0_13_M7
    have q0_10_M9 : id (M9 0 10 = M 0 10) := (congrFun (fM90 0 (by unfold inT; first | decide | omega)) 10).trans q0_10_M7
    obtain ⟨PM9, LM9, tvM9, dvM9, dlM9⟩ := pM9
    have tnM9 := tvM9.2.2.1
    have ctl : CT n PM9 LM9 FM7 Z := LOW.ct (CLR.ct pub (by omega) clM7) dvM9 dlM9
    refine g_iload_n (pc' := 51) 0 dX9_emptyGlass_50 rfl rfl ?_
    refine g_ireturn dX9_emptyGlass_51 ?_
    exact ⟨iM9, fM9, q2_5_M9, q1_2_M9, q1_4_M9, q1_6_M9, q11_5_M9, q10_2_M9, q10_4_M9, q10_6_M9, q20_5_M9, q19_2_M9, q19_4_M9, q19_6_M9, q29_0_M9, q29_1_M9, q31_1_M9, q0_11_M9, q0_12_M9, q0_13_M9, q0_10_M9, by omega, fun r1 m1 pi1 h => (by
        have q := EMN.yes pub pi1 (by omega) clM7 dvM9 dlM9 h
        exact ⟨(by omega), ta, tb, PM9, LM9, FM7, Z, tvM9, q.2⟩)⟩
  · replace q1 := q1.resolve_left (fun h => absurd (c3.symm.trans h.1) (by decide))
    refine g_bipush (pc' := 16) (v := (-2)) dX9_emptyGlass_14 rfl (by decide) ?_
    refine g_ireturn dX9_emptyGlass_16 ?_
    exact ⟨hi, Fr.rf, rfl, rfl, rfl, rfl, rfl, rfl, rfl, rfl, rfl, rfl, rfl, rfl, rfl, rfl, rfl, rfl, rfl, rfl, rfl, by omega, fun r1 m1 pi1 h => (by
        have q := EMN.none pub (by omega) h
        exact ⟨(by omega), ta, tb, P, L, F, Z, tv, q.2⟩)⟩
set_option maxHeartbeats 4000000 in
set_option maxRecDepth 100000 in
theorem c_X9_empty_x (X : Cx) (M : Mm) (hi : IC M) (a : Int) (ha : inI a) (ta tb : Nat) (n : Int) (P : Nat → Int) (L : Int) (F Z m z : Nat → Int) (tv : TV M 2 ta tb n P L F Z) (pub : PUB n P L F Z m z) : Con X 4 yX9_empty cX9_empty 2 (some .int) [vr X 0, vi a] M (Qi (fun r M1 => IC M1 ∧ Fr (fun c => (2 ≤ c ∧ c ≤ 6) ∨ c = 0 ∨ c = 96) M M1 ∧ M1 2 5 = M 2 5 ∧ M1 1 2 = M 1 2 ∧ M1 1 4 = M 1 4 ∧ M1 1 6 = M 1 6 ∧ M1 11 5 = M 11 5 ∧ M1 10 2 = M 10 2 ∧ M1 10 4 = M 10 4 ∧ M1 10 6 = M 10 6 ∧ M1 20 5 = M 20 5 ∧ M1 19 2 = M 19 2 ∧ M1 19 4 = M 19 4 ∧ M1 19 6 = M 19 6 ∧ M1 29 0 = M 29 0 ∧ M1 29 1 = M 29 1 ∧ M1 31 1 = M 31 1 ∧ M1 0 11 = M 0 11 ∧ M1 0 12 = M 0 12 ∧ M1 0 13 = M 0 13 ∧ ((-6 ≤ r ∧ r ≤ 60) ∧ (∀ (r1 : Int) (m1 : Nat → Int), PI m1 → REM m n a r1 m1 → r = r1 ∧ PB M1 2 n m1 z) ∧ M1 0 10 = ngv r ∧ M1 96 = ansF (M 96) r))) := by
  refine Con.ofG rfl (Nat.le_of_ble_eq_true rfl) ?_
  show G X 4 RX9 cX9_empty 2 (some .int) (Qi (fun r M1 => IC M1 ∧ Fr (fun c => (2 ≤ c ∧ c ≤ 6) ∨ c = 0 ∨ c = 96) M M1 ∧ M1 2 5 = M 2 5 ∧ M1 1 2 = M 1 2 ∧ M1 1 4 = M 1 4 ∧ M1 1 6 = M 1 6 ∧ M1 11 5 = M 11 5 ∧ M1 10 2 = M 10 2 ∧ M1 10 4 = M 10 4 ∧ M1 10 6 = M 10 6 ∧ M1 20 5 = M 20 5 ∧ M1 19 2 = M 19 2 ∧ M1 19 4 = M 19 4 ∧ M1 19 6 = M 19 6 ∧ M1 29 0 = M 29 0 ∧ M1 29 1 = M 29 1 ∧ M1 31 1 = M 31 1 ∧ M1 0 11 = M 0 11 ∧ M1 0 12 = M 0 12 ∧ M1 0 13 = M 0 13 ∧ ((-6 ≤ r ∧ r ≤ 60) ∧ (∀ (r1 : Int) (m1 : Nat → Int), PI m1 → REM m n a r1 m1 → r = r1 ∧ PB M1 2 n m1 z) ∧ M1 0 10 = ngv r ∧ M1 96 = ansF (M 96) r))) 0 [(0, vr X 0), (1, vi a)] [] M
  have tn := tv.2.2.1
  have ctn := pub.1.1
  refine g_aload_n (pc' := 1) 0 dX9_empty_0 rfl rfl ?_
  refine g_aload_n (pc' := 2) 0 dX9_empty_1 rfl rfl ?_
  refine g_iload_n (pc' := 3) 1 dX9_empty_2 rfl rfl ?_
  refine g_callVi (pc' := 6) (As := [vi a]) (b := 0) (S := [vr X 0]) dX9_empty_3 rfl m_X9_140 w_X9_emptyGlass (c_X9_emptyGlass_x X M hi a ha ta tb n P L F Z m z tv pub) rfl ⟨_, _, _, rfl, rfl, rfl⟩ (by decide) (by decide) rfl (Nat.le_of_ble_eq_true rfl) (fun z2 M3 q1 => ?_)
  obtain ⟨iM3, fM30, eM3_2_5, eM3_1_2, eM3_1_4, eM3_1_6, eM3_11_5, eM3_10_2, eM3_10_4, eM3_10_6, eM3_20_5, eM3_19_2, eM3_19_4, eM3_19_6, eM3_29_0, eM3_29_1, eM3_31_1, eM3_0_11, eM3_0_12, eM3_0_13, eM3_0_10, pM3⟩ := q1
  have fM3 : Fr (fun c => (2 ≤ c ∧ c ≤ 6) ∨ c = 0 ∨ c = 96) M M3 := Fr.tr Fr.rf fM30 fi_9
  have q2_5_M3 : id (M3 2 5 = M 2 5) := eM3_2_5
  have q1_2_M3 : id (M3 1 2 = M 1 2) := eM3_1_2
  have q1_4_M3 : id (M3 1 4 = M 1 4) := eM3_1_4
  have q1_6_M3 : id (M3 1 6 = M 1 6) := eM3_1_6
  have q11_5_M3 : id (M3 11 5 = M 11 5) := eM3_11_5
  have q10_2_M3 : id (M3 10 2 = M 10 2) := eM3_10_2
  have q10_4_M3 : id (M3 10 4 = M 10 4) := eM3_10_4
  have q10_6_M3 : id (M3 10 6 = M 10 6) := eM3_10_6
  have q20_5_M3 : id (M3 20 5 = M 20 5) := eM3_20_5
  have q19_2_M3 : id (M3 19 2 = M 19 2) := eM3_19_2
  have q19_4_M3 : id (M3 19 4 = M 19 4) := eM3_19_4
  have q19_6_M3 : id (M3 19 6 = M 19 6) := eM3_19_6
  have q29_0_M3 : id (M3 29 0 = M 29 0) := eM3_29_0
  have q29_1_M3 : id (M3 29 1 = M 29 1) := eM3_29_1
  have q31_1_M3 : id (M3 31 1 = M 31 1) := eM3_31_1
  have q0_11_M3 : id (M3 0 11 = M 0 11) := eM3_0_11
  have q0_12_M3 : id (M3 0 12 = M 0 12) := eM3_0_12
  have q0_13_M3 : id (M3 0 13 = M 0 13) := eM3_0_13
  have q0_10_M3 : (M3 0 10 = M 0 10) := eM3_0_10
  have wM3_0_10 : M3 0 10 = M 0 10 := eM3_0_10
  clear eM3_2_5 eM3_1_2 eM3_1_4 eM3_1_6 eM3_11_5 eM3_10_2 eM3_10_4 eM3_10_6 eM3_20_5 eM3_19_2 eM3_19_4 eM3_19_6 eM3_29_0 eM3_29_1 eM3_31_1 eM3_0_11 eM3_0_12 eM3_0_13
  obtain ⟨prM3, pgM3⟩ := pM3
  have e96M3 := fM30 96 (by first | decide | omega | (dsimp only; omega))
  refine g_callVi (pc' := 9) (As := [vi z2]) (b := 0) (S := []) dX9_empty_6 rfl m_X9_79 w_X9_answered (c_X9_answered_x X M3 iM3 z2 ⟨by omega, by omega⟩) rfl ⟨_, _, _, rfl, rfl, rfl⟩ (by decide) (by decide) rfl (Nat.le_of_ble_eq_true rfl) (fun z5 M6 q4 => ?_)
  obtain ⟨iM6, fM60, eM6_2_5, eM6_1_2, eM6_1_4, eM6_1_6, eM6_11_5, eM6_10_2, eM6_10_4, eM6_10_6, eM6_20_5, eM6_19_2, eM6_19_4, eM6_19_6, eM6_29_0, eM6_29_1, eM6_31_1, eM6_0_11, eM6_0_12, eM6_0_13, pM6⟩ := q4
  have fM6 : Fr (fun c => (2 ≤ c ∧ c ≤ 6) ∨ c = 0 ∨ c = 96) M M6 := Fr.tr fM3 fM60 fi_10
  have q2_5_M6 : id (M6 2 5 = M 2 5) := eM6_2_5.trans q2_5_M3
  have q1_2_M6 : id (M6 1 2 = M 1 2) := eM6_1_2.trans q1_2_M3
  have q1_4_M6 : id (M6 1 4 = M 1 4) := eM6_1_4.trans q1_4_M3
  have q1_6_M6 : id (M6 1 6 = M 1 6) := eM6_1_6.trans q1_6_M3
  have q11_5_M6 : id (M6 11 5 = M 11 5) := eM6_11_5.trans q11_5_M3
  have q10_2_M6 : id (M6 10 2 = M 10 2) := eM6_10_2.trans q10_2_M3
  have q10_4_M6 : id (M6 10 4 = M 10 4) := eM6_10_4.trans q10_4_M3
  have q10_6_M6 : id (M6 10 6 = M 10 6) := eM6_10_6.trans q10_6_M3
  have q20_5_M6 : id (M6 20 5 = M 20 5) := eM6_20_5.trans q20_5_M3
  have q19_2_M6 : id (M6 19 2 = M 19 2) := eM6_19_2.trans q19_2_M3
  have q19_4_M6 : id (M6 19 4 = M 19 4) := eM6_19_4.trans q19_4_M3
  have q19_6_M6 : id (M6 19 6 = M 19 6) := eM6_19_6.trans q19_6_M3
  have q29_0_M6 : id (M6 29 0 = M 29 0) := eM6_29_0.trans q29_0_M3
  have q29_1_M6 : id (M6 29 1 = M 29 1) := eM6_29_1.trans q29_1_M3
  have q31_1_M6 : id (M6 31 1 = M 31 1) := eM6_31_1.trans q31_1_M3
  have q0_11_M6 : id (M6 0 11 = M 0 11) := eM6_0_11.trans q0_11_M3
  have q0_12_M6 : id (M6 0 12 = M 0 12) := eM6_0_12.trans q0_12_M3
  have q0_13_M6 : id (M6 0 13 = M 0 13) := eM6_0_13.trans q0_13_M3
  clear eM6_2_5 eM6_1_2 eM6_1_4 eM6_1_6 eM6_11_5 eM6_10_2 eM6_10_4 eM6_10_6 eM6_20_5 eM6_19_2 eM6_19_4 eM6_19_6 eM6_29_0 eM6_29_1 eM6_31_1 eM6_0_11 eM6_0_12 eM6_0_13
  obtain ⟨anM6, asM6, a96M6⟩ := pM6
  rw [e96M3] at a96M6
  subst anM6
  have faM6 := fM60
  refine g_ireturn dX9_empty_9 ?_
  exact ⟨iM6, fM6, q2_5_M6, q1_2_M6, q1_4_M6, q1_6_M6, q11_5_M6, q10_2_M6, q10_4_M6, q10_6_M6, q20_5_M6, q19_2_M6, q19_4_M6, q19_6_M6, q29_0_M6, q29_1_M6, q31_1_M6, q0_11_M6, q0_12_M6, q0_13_M6, prM3, fun r1 m1 pi1 h => (by
      obtain ⟨q1, a1, b1, P1, L1, F1, Z1, t1, p1⟩ := pgM3 r1 m1 pi1 h
      exact ⟨q1, a1, b1, P1, L1, F1, Z1, t1.far faM6 (fun c z => by unfold inT; first | omega | (dsimp only at z; omega)), p1⟩), asM6, a96M6⟩
set_option maxHeartbeats 4000000 in
set_option maxRecDepth 100000 in
theorem c_X9_addGlass_x (X : Cx) (M : Mm) (hi : IC M) (a : Int) (ha : inI a) (ta tb : Nat) (n : Int) (P : Nat → Int) (L : Int) (F Z m z : Nat → Int) (tv : TV M 2 ta tb n P L F Z) (pub : PUB n P L F Z m z) : Con X 3 yX9_addGlass cX9_addGlass 2 (some .int) [vr X 0, vi a] M (Qi (fun r M1 => IC M1 ∧ Fr (fun c => 2 ≤ c ∧ c ≤ 6) M M1 ∧ M1 1 2 = M 1 2 ∧ M1 1 4 = M 1 4 ∧ M1 1 6 = M 1 6 ∧ M1 11 5 = M 11 5 ∧ M1 10 2 = M 10 2 ∧ M1 10 4 = M 10 4 ∧ M1 10 6 = M 10 6 ∧ M1 20 5 = M 20 5 ∧ M1 19 2 = M 19 2 ∧ M1 19 4 = M 19 4 ∧ M1 19 6 = M 19 6 ∧ M1 29 0 = M 29 0 ∧ M1 29 1 = M 29 1 ∧ M1 31 1 = M 31 1 ∧ M1 0 11 = M 0 11 ∧ M1 0 12 = M 0 12 ∧ M1 0 13 = M 0 13 ∧ M1 0 10 = M 0 10 ∧ ((-6 ≤ r ∧ r ≤ 60) ∧ ((a < 1 ∨ 60 < a) → r = -1 ∧ PB M1 2 n m z) ∧ (1 ≤ a → a ≤ 60 → n = 6 → r = -5 ∧ PB M1 2 n m z) ∧ (1 ≤ a → a ≤ 60 → n < 6 → r = n ∧ ∀ z1 : Nat → Int, z1 n.toNat = a → (∀ j : Nat, (j : Int) < n → z1 j = z j) → PB M1 2 (n + 1) m z1)))) := by
  refine Con.ofG rfl (Nat.le_of_ble_eq_true rfl) ?_
  show G X 3 RX9 cX9_addGlass 2 (some .int) (Qi (fun r M1 => IC M1 ∧ Fr (fun c => 2 ≤ c ∧ c ≤ 6) M M1 ∧ M1 1 2 = M 1 2 ∧ M1 1 4 = M 1 4 ∧ M1 1 6 = M 1 6 ∧ M1 11 5 = M 11 5 ∧ M1 10 2 = M 10 2 ∧ M1 10 4 = M 10 4 ∧ M1 10 6 = M 10 6 ∧ M1 20 5 = M 20 5 ∧ M1 19 2 = M 19 2 ∧ M1 19 4 = M 19 4 ∧ M1 19 6 = M 19 6 ∧ M1 29 0 = M 29 0 ∧ M1 29 1 = M 29 1 ∧ M1 31 1 = M 31 1 ∧ M1 0 11 = M 0 11 ∧ M1 0 12 = M 0 12 ∧ M1 0 13 = M 0 13 ∧ M1 0 10 = M 0 10 ∧ ((-6 ≤ r ∧ r ≤ 60) ∧ ((a < 1 ∨ 60 < a) → r = -1 ∧ PB M1 2 n m z) ∧ (1 ≤ a → a ≤ 60 → n = 6 → r = -5 ∧ PB M1 2 n m z) ∧ (1 ≤ a → a ≤ 60 → n < 6 → r = n ∧ ∀ z1 : Nat → Int, z1 n.toNat = a → (∀ j : Nat, (j : Int) < n → z1 j = z j) → PB M1 2 (n + 1) m z1)))) 0 [(0, vr X 0), (1, vi a)] [] M
  have tn := tv.2.2.1
  have ctn := pub.1.1
  refine g_iload_n (pc' := 1) 1 dX9_addGlass_0 rfl rfl ?_
  refine g_callSip (pc' := 4) (As := [vi a]) (S := []) dX9_addGlass_1 rfl m_X9_82 w_X9_isAmount (c_X9_isAmount X M a ha) rfl (by decide) (by decide) rfl (Nat.le_of_ble_eq_true rfl) (fun z2 q1 => ?_)
  refine g_if_ne (pc' := 7) (tgt := 9) ⟨by omega, by omega⟩ dX9_addGlass_4 rfl rfl (fun c3 => ?_) (fun c3 => ?_)
  · replace q1 := q1.resolve_right (fun h => c3 h.1)
    refine g_aload_n (pc' := 10) 0 dX9_addGlass_9 rfl rfl ?_
    refine g_getR (pc' := 13) dX9_addGlass_10 rfl f_X9_12 rfl rfl ?_
    refine g_getR (pc' := 16) dX9_addGlass_13 rfl f_X9_86 rfl rfl ?_
    refine g_iload_n (pc' := 17) 1 dX9_addGlass_16 rfl rfl ?_
    refine g_callVi (pc' := 20) (As := [vi a]) (b := 2) (S := []) dX9_addGlass_17 rfl m_X9_89 w_X7_add (c_X7_add_x X M 2 isT_2 (hi.1 _ isT_2) a ha ta tb n P L F Z tv ctn) rfl ⟨_, _, _, rfl, rfl, rfl⟩ (by decide) (by decide) rfl (Nat.le_of_ble_eq_true rfl) (fun z5 M6 q4 => ?_)
    obtain ⟨kM6, fM60, gM60, pM6⟩ := q4
    have iM6 : IC M6 := IC.ofT hi isT_2 fM60 kM6
    have fM6 : Fr (fun c => 2 ≤ c ∧ c ≤ 6) M M6 := Fr.tr Fr.rf fM60 (fun c z => by unfold inT at z; first | omega | (dsimp only; omega))
    have q1_2_M6 : id (M6 1 2 = M 1 2) := (congrFun (fM60 1 (by unfold inT; first | decide | omega)) 2)
    have q1_4_M6 : id (M6 1 4 = M 1 4) := (congrFun (fM60 1 (by unfold inT; first | decide | omega)) 4)
    have q1_6_M6 : id (M6 1 6 = M 1 6) := (congrFun (fM60 1 (by unfold inT; first | decide | omega)) 6)
    have q11_5_M6 : id (M6 11 5 = M 11 5) := (congrFun (fM60 11 (by unfold inT; first | decide | omega)) 5)
    have q10_2_M6 : id (M6 10 2 = M 10 2) := (congrFun (fM60 10 (by unfold inT; first | decide | omega)) 2)
    have q10_4_M6 : id (M6 10 4 = M 10 4) := (congrFun (fM60 10 (by unfold inT; first | decide | omega)) 4)
    have q10_6_M6 : id (M6 10 6 = M 10 6) := (congrFun (fM60 10 (by unfold inT; first | decide | omega)) 6)
    have q20_5_M6 : id (M6 20 5 = M 20 5) := (congrFun (fM60 20 (by unfold inT; first | decide | omega)) 5)
    have q19_2_M6 : id (M6 19 2 = M 19 2) := (congrFun (fM60 19 (by unfold inT; first | decide | omega)) 2)
    have q19_4_M6 : id (M6 19 4 = M 19 4) := (congrFun (fM60 19 (by unfold inT; first | decide | omega)) 4)
    have q19_6_M6 : id (M6 19 6 = M 19 6) := (congrFun (fM60 19 (by unfold inT; first | decide | omega)) 6)
    have q29_0_M6 : id (M6 29 0 = M 29 0) := (congrFun (fM60 29 (by unfold inT; first | decide | omega)) 0)
    have q29_1_M6 : id (M6 29 1 = M 29 1) := (congrFun (fM60 29 (by unfold inT; first | decide | omega)) 1)
    have q31_1_M6 : id (M6 31 1 = M 31 1) := (congrFun (fM60 31 (by unfold inT; first | decide | omega)) 1)
    have q0_11_M6 : id (M6 0 11 = M 0 11) := (congrFun (fM60 0 (by unfold inT; first | decide | omega)) 11)
    have q0_12_M6 : id (M6 0 12 = M 0 12) := (congrFun (fM60 0 (by unfold inT; first | decide | omega)) 12)
    have q0_13_M6 : id (M6 0 13 = M 0 13) := (congrFun (fM60 0 (by unfold inT; first | decide | omega)) 13)
    have q0_10_M6 : id (M6 0 10 = M 0 10) := (congrFun (fM60 0 (by unfold inT; first | decide | omega)) 10)
    refine g_ireturn dX9_addGlass_20 ?_
    have ad1 := pM6.2.1
    have ad2 := pM6.2.2
    have ar : (n = 6 → z5 = -5) ∧ (n < 6 → z5 = n) := ⟨fun q => (ad1 q).1, fun q => (ad2 q).1⟩
    exact ⟨iM6, fM6, q1_2_M6, q1_4_M6, q1_6_M6, q11_5_M6, q10_2_M6, q10_4_M6, q10_6_M6, q20_5_M6, q19_2_M6, q19_4_M6, q19_6_M6, q29_0_M6, q29_1_M6, q31_1_M6, q0_11_M6, q0_12_M6, q0_13_M6, q0_10_M6, by omega, fun _ => by omega, fun _ _ q => ⟨by omega, ta, tb, P, L, F, Z, (ad1 q).2, pub⟩, fun _ _ q => ⟨by omega, fun z1 hz1 hz2 => (by
        obtain ⟨-, P1, F1, t1, c1⟩ := ad2 q
        exact ⟨ta, tb, P1, L, F1, ms Z n.toNat a, t1, PUB.add pub (by omega) c1 (by omega) hz1 hz2⟩)⟩⟩
  · replace q1 := q1.resolve_left (fun h => absurd (c3.symm.trans h.1) (by decide))
    refine g_iconst (pc' := 8) dX9_addGlass_7 rfl ?_
    refine g_ireturn dX9_addGlass_8 ?_
    exact ⟨hi, Fr.rf, rfl, rfl, rfl, rfl, rfl, rfl, rfl, rfl, rfl, rfl, rfl, rfl, rfl, rfl, rfl, rfl, rfl, rfl, by omega, fun _ => ⟨rfl, ta, tb, P, L, F, Z, tv, pub⟩, fun _ _ => by omega, fun _ _ => by omega⟩
set_option maxHeartbeats 4000000 in
set_option maxRecDepth 100000 in
theorem c_X9_glass_x (X : Cx) (M : Mm) (hi : IC M) (a : Int) (ha : inI a) (ta tb : Nat) (n : Int) (P : Nat → Int) (L : Int) (F Z m z : Nat → Int) (tv : TV M 2 ta tb n P L F Z) (pub : PUB n P L F Z m z) : Con X 4 yX9_glass cX9_glass 2 (some .int) [vr X 0, vi a] M (Qi (fun r M1 => IC M1 ∧ Fr (fun c => (2 ≤ c ∧ c ≤ 6) ∨ c = 0 ∨ c = 96) M M1 ∧ M1 1 2 = M 1 2 ∧ M1 1 4 = M 1 4 ∧ M1 1 6 = M 1 6 ∧ M1 11 5 = M 11 5 ∧ M1 10 2 = M 10 2 ∧ M1 10 4 = M 10 4 ∧ M1 10 6 = M 10 6 ∧ M1 20 5 = M 20 5 ∧ M1 19 2 = M 19 2 ∧ M1 19 4 = M 19 4 ∧ M1 19 6 = M 19 6 ∧ M1 29 0 = M 29 0 ∧ M1 29 1 = M 29 1 ∧ M1 31 1 = M 31 1 ∧ M1 0 11 = M 0 11 ∧ M1 0 12 = M 0 12 ∧ M1 0 13 = M 0 13 ∧ ((-6 ≤ r ∧ r ≤ 60) ∧ ((a < 1 ∨ 60 < a) → r = -1 ∧ PB M1 2 n m z) ∧ (1 ≤ a → a ≤ 60 → n = 6 → r = -5 ∧ PB M1 2 n m z) ∧ (1 ≤ a → a ≤ 60 → n < 6 → r = n ∧ ∀ z1 : Nat → Int, z1 n.toNat = a → (∀ j : Nat, (j : Int) < n → z1 j = z j) → PB M1 2 (n + 1) m z1) ∧ M1 0 10 = ngv r ∧ M1 96 = ansF (M 96) r))) := by
  refine Con.ofG rfl (Nat.le_of_ble_eq_true rfl) ?_
  show G X 4 RX9 cX9_glass 2 (some .int) (Qi (fun r M1 => IC M1 ∧ Fr (fun c => (2 ≤ c ∧ c ≤ 6) ∨ c = 0 ∨ c = 96) M M1 ∧ M1 1 2 = M 1 2 ∧ M1 1 4 = M 1 4 ∧ M1 1 6 = M 1 6 ∧ M1 11 5 = M 11 5 ∧ M1 10 2 = M 10 2 ∧ M1 10 4 = M 10 4 ∧ M1 10 6 = M 10 6 ∧ M1 20 5 = M 20 5 ∧ M1 19 2 = M 19 2 ∧ M1 19 4 = M 19 4 ∧ M1 19 6 = M 19 6 ∧ M1 29 0 = M 29 0 ∧ M1 29 1 = M 29 1 ∧ M1 31 1 = M 31 1 ∧ M1 0 11 = M 0 11 ∧ M1 0 12 = M 0 12 ∧ M1 0 13 = M 0 13 ∧ ((-6 ≤ r ∧ r ≤ 60) ∧ ((a < 1 ∨ 60 < a) → r = -1 ∧ PB M1 2 n m z) ∧ (1 ≤ a → a ≤ 60 → n = 6 → r = -5 ∧ PB M1 2 n m z) ∧ (1 ≤ a → a ≤ 60 → n < 6 → r = n ∧ ∀ z1 : Nat → Int, z1 n.toNat = a → (∀ j : Nat, (j : Int) < n → z1 j = z j) → PB M1 2 (n + 1) m z1) ∧ M1 0 10 = ngv r ∧ M1 96 = ansF (M 96) r))) 0 [(0, vr X 0), (1, vi a)] [] M
  have tn := tv.2.2.1
  have ctn := pub.1.1
  refine g_aload_n (pc' := 1) 0 dX9_glass_0 rfl rfl ?_
  refine g_aload_n (pc' := 2) 0 dX9_glass_1 rfl rfl ?_
  refine g_iload_n (pc' := 3) 1 dX9_glass_2 rfl rfl ?_
  refine g_callVi (pc' := 6) (As := [vi a]) (b := 0) (S := [vr X 0]) dX9_glass_3 rfl m_X9_75 w_X9_addGlass (c_X9_addGlass_x X M hi a ha ta tb n P L F Z m z tv pub) rfl ⟨_, _, _, rfl, rfl, rfl⟩ (by decide) (by decide) rfl (Nat.le_of_ble_eq_true rfl) (fun z2 M3 q1 => ?_)
  obtain ⟨iM3, fM30, eM3_1_2, eM3_1_4, eM3_1_6, eM3_11_5, eM3_10_2, eM3_10_4, eM3_10_6, eM3_20_5, eM3_19_2, eM3_19_4, eM3_19_6, eM3_29_0, eM3_29_1, eM3_31_1, eM3_0_11, eM3_0_12, eM3_0_13, eM3_0_10, pM3⟩ := q1
  have fM3 : Fr (fun c => (2 ≤ c ∧ c ≤ 6) ∨ c = 0 ∨ c = 96) M M3 := Fr.tr Fr.rf fM30 fi_9
  have q1_2_M3 : id (M3 1 2 = M 1 2) := eM3_1_2
  have q1_4_M3 : id (M3 1 4 = M 1 4) := eM3_1_4
  have q1_6_M3 : id (M3 1 6 = M 1 6) := eM3_1_6
  have q11_5_M3 : id (M3 11 5 = M 11 5) := eM3_11_5
  have q10_2_M3 : id (M3 10 2 = M 10 2) := eM3_10_2
  have q10_4_M3 : id (M3 10 4 = M 10 4) := eM3_10_4
  have q10_6_M3 : id (M3 10 6 = M 10 6) := eM3_10_6
  have q20_5_M3 : id (M3 20 5 = M 20 5) := eM3_20_5
  have q19_2_M3 : id (M3 19 2 = M 19 2) := eM3_19_2
  have q19_4_M3 : id (M3 19 4 = M 19 4) := eM3_19_4
  have q19_6_M3 : id (M3 19 6 = M 19 6) := eM3_19_6
  have q29_0_M3 : id (M3 29 0 = M 29 0) := eM3_29_0
  have q29_1_M3 : id (M3 29 1 = M 29 1) := eM3_29_1
  have q31_1_M3 : id (M3 31 1 = M 31 1) := eM3_31_1
  have q0_11_M3 : id (M3 0 11 = M 0 11) := eM3_0_11
  have q0_12_M3 : id (M3 0 12 = M 0 12) := eM3_0_12
  have q0_13_M3 : id (M3 0 13 = M 0 13) := eM3_0_13
  have q0_10_M3 : (M3 0 10 = M 0 10) := eM3_0_10
  have wM3_0_10 : M3 0 10 = M 0 10 := eM3_0_10
  clear eM3_1_2 eM3_1_4 eM3_1_6 eM3_11_5 eM3_10_2 eM3_10_4 eM3_10_6 eM3_20_5 eM3_19_2 eM3_19_4 eM3_19_6 eM3_29_0 eM3_29_1 eM3_31_1 eM3_0_11 eM3_0_12 eM3_0_13
  obtain ⟨prM3, pgM3⟩ := pM3
  have e96M3 := fM30 96 (by first | decide | omega | (dsimp only; omega))
  refine g_callVi (pc' := 9) (As := [vi z2]) (b := 0) (S := []) dX9_glass_6 rfl m_X9_79 w_X9_answered (c_X9_answered_x X M3 iM3 z2 ⟨by omega, by omega⟩) rfl ⟨_, _, _, rfl, rfl, rfl⟩ (by decide) (by decide) rfl (Nat.le_of_ble_eq_true rfl) (fun z5 M6 q4 => ?_)
  obtain ⟨iM6, fM60, eM6_2_5, eM6_1_2, eM6_1_4, eM6_1_6, eM6_11_5, eM6_10_2, eM6_10_4, eM6_10_6, eM6_20_5, eM6_19_2, eM6_19_4, eM6_19_6, eM6_29_0, eM6_29_1, eM6_31_1, eM6_0_11, eM6_0_12, eM6_0_13, pM6⟩ := q4
  have fM6 : Fr (fun c => (2 ≤ c ∧ c ≤ 6) ∨ c = 0 ∨ c = 96) M M6 := Fr.tr fM3 fM60 fi_10
  have q1_2_M6 : id (M6 1 2 = M 1 2) := eM6_1_2.trans q1_2_M3
  have q1_4_M6 : id (M6 1 4 = M 1 4) := eM6_1_4.trans q1_4_M3
  have q1_6_M6 : id (M6 1 6 = M 1 6) := eM6_1_6.trans q1_6_M3
  have q11_5_M6 : id (M6 11 5 = M 11 5) := eM6_11_5.trans q11_5_M3
  have q10_2_M6 : id (M6 10 2 = M 10 2) := eM6_10_2.trans q10_2_M3
  have q10_4_M6 : id (M6 10 4 = M 10 4) := eM6_10_4.trans q10_4_M3
  have q10_6_M6 : id (M6 10 6 = M 10 6) := eM6_10_6.trans q10_6_M3
  have q20_5_M6 : id (M6 20 5 = M 20 5) := eM6_20_5.trans q20_5_M3
  have q19_2_M6 : id (M6 19 2 = M 19 2) := eM6_19_2.trans q19_2_M3
  have q19_4_M6 : id (M6 19 4 = M 19 4) := eM6_19_4.trans q19_4_M3
  have q19_6_M6 : id (M6 19 6 = M 19 6) := eM6_19_6.trans q19_6_M3
  have q29_0_M6 : id (M6 29 0 = M 29 0) := eM6_29_0.trans q29_0_M3
  have q29_1_M6 : id (M6 29 1 = M 29 1) := eM6_29_1.trans q29_1_M3
  have q31_1_M6 : id (M6 31 1 = M 31 1) := eM6_31_1.trans q31_1_M3
  have q0_11_M6 : id (M6 0 11 = M 0 11) := eM6_0_11.trans q0_11_M3
  have q0_12_M6 : id (M6 0 12 = M 0 12) := eM6_0_12.trans q0_12_M3
  have q0_13_M6 : id (M6 0 13 = M 0 13) := eM6_0_13.trans q0_13_M3
  have wM6_2_5 : M6 2 5 = M3 2 5 := eM6_2_5
  clear eM6_1_2 eM6_1_4 eM6_1_6 eM6_11_5 eM6_10_2 eM6_10_4 eM6_10_6 eM6_20_5 eM6_19_2 eM6_19_4 eM6_19_6 eM6_29_0 eM6_29_1 eM6_31_1 eM6_0_11 eM6_0_12 eM6_0_13
  obtain ⟨anM6, asM6, a96M6⟩ := pM6
  rw [e96M3] at a96M6
  subst anM6
  have faM6 := fM60
  refine g_ireturn dX9_glass_9 ?_
  exact ⟨iM6, fM6, q1_2_M6, q1_4_M6, q1_6_M6, q11_5_M6, q10_2_M6, q10_4_M6, q10_6_M6, q20_5_M6, q19_2_M6, q19_4_M6, q19_6_M6, q29_0_M6, q29_1_M6, q31_1_M6, q0_11_M6, q0_12_M6, q0_13_M6, prM3, fun q => ⟨(pgM3.1 q).1, (PB.far (pgM3.1 q).2 faM6 (fun c z => by unfold inT; first | omega | (dsimp only at z; omega)))⟩, fun q1 q2 q3 => ⟨(pgM3.2.1 q1 q2 q3).1, (PB.far (pgM3.2.1 q1 q2 q3).2 faM6 (fun c z => by unfold inT; first | omega | (dsimp only at z; omega)))⟩, fun q1 q2 q3 => ⟨(pgM3.2.2 q1 q2 q3).1, fun z1 h1 h2 => (PB.far ((pgM3.2.2 q1 q2 q3).2 z1 h1 h2) faM6 (fun c z => by unfold inT; first | omega | (dsimp only at z; omega)))⟩, asM6, a96M6⟩
set_option maxHeartbeats 4000000 in
set_option maxRecDepth 100000 in
theorem c_X9_of_x (X : Cx) (M : Mm) (hi : IC M) (a : Int) (ha : inI a) (b : Int) (hb : inI b) (ta tb : Nat) (n : Int) (P : Nat → Int) (L : Int) (F Z m z : Nat → Int) (tv : TV M 2 ta tb n P L F Z) (pub : PUB n P L F Z m z) : Con X 10 yX9_of cX9_of 3 (some .int) [vr X 0, vi a, vi b] M (Qi (fun r M1 => M1 = M ∧ ((((0 ≤ a ∧ a < n) ∧ b = 0) → r = z a.toNat) ∧ (((0 ≤ a ∧ a < n) ∧ b = 1) → r = flm m a.toNat) ∧ (¬ ((0 ≤ a ∧ a < n) ∧ (b = 0 ∨ b = 1)) → r = -1)))) := by
  refine Con.ofG rfl (Nat.le_of_ble_eq_true rfl) ?_
  show G X 10 RX9 cX9_of 3 (some .int) (Qi (fun r M1 => M1 = M ∧ ((((0 ≤ a ∧ a < n) ∧ b = 0) → r = z a.toNat) ∧ (((0 ≤ a ∧ a < n) ∧ b = 1) → r = flm m a.toNat) ∧ (¬ ((0 ≤ a ∧ a < n) ∧ (b = 0 ∨ b = 1)) → r = -1)))) 0 [(0, vr X 0), (1, vi a), (2, vi b)] [] M
  have tn := tv.2.2.1
  have ctn := pub.1.1
  refine g_iload_n (pc' := 1) 2 dX9_of_0 rfl rfl ?_
  refine g_if_ne (pc' := 4) (tgt := 30) hb dX9_of_1 rfl rfl (fun c1 => ?_) (fun c1 => ?_)
  · refine g_iload_n (pc' := 31) 2 dX9_of_30 rfl rfl ?_
    refine g_iconst (pc' := 32) dX9_of_31 rfl ?_
    refine g_ic_ne (pc' := 35) (tgt := 61) hb (by decide) dX9_of_32 rfl rfl (fun c2 => ?_) (fun c2 => ?_)
    · refine g_iconst (pc' := 62) dX9_of_61 rfl ?_
      refine g_ireturn dX9_of_62 ?_
      exact ⟨rfl, fun q => by have y := (pub.1.2.2.2.2 a.toNat (by omega)).1; omega, fun q => by have y := pub.1.full (i := a.toNat) (by omega); omega, fun q => by omega⟩
    · refine g_aload_n (pc' := 36) 0 dX9_of_35 rfl rfl ?_
      refine g_getR (pc' := 39) dX9_of_36 rfl f_X9_12 rfl rfl ?_
      refine g_getR (pc' := 42) dX9_of_39 rfl f_X9_86 rfl rfl ?_
      refine g_iload_n (pc' := 43) 1 dX9_of_42 rfl rfl ?_
      refine g_callVip (pc' := 46) (As := [vi a]) (b := 2) (S := []) dX9_of_43 rfl m_X9_92 w_X7_has (c_X7_has X M 2 isT_2 (hi.1 _ isT_2) a ha) rfl ⟨_, _, _, rfl, rfl, rfl⟩ (by decide) (by decide) rfl (Nat.le_of_ble_eq_true rfl) (fun z4 q3 => ?_)
      refine g_if_eq (pc' := 49) (tgt := 61) ⟨by omega, by omega⟩ dX9_of_46 rfl rfl (fun c5 => ?_) (fun c5 => ?_)
      · replace q3 := q3.resolve_left (fun h => absurd (c5.symm.trans h.1) (by decide))
        refine g_iconst (pc' := 62) dX9_of_61 rfl ?_
        refine g_ireturn dX9_of_62 ?_
        exact ⟨rfl, fun q => by have y := (pub.1.2.2.2.2 a.toNat (by omega)).1; omega, fun q => by have y := pub.1.full (i := a.toNat) (by omega); omega, fun q => by omega⟩
      · replace q3 := q3.resolve_right (fun h => c5 h.1)
        refine g_aload_n (pc' := 50) 0 dX9_of_49 rfl rfl ?_
        refine g_getR (pc' := 53) dX9_of_50 rfl f_X9_12 rfl rfl ?_
        refine g_getR (pc' := 56) dX9_of_53 rfl f_X9_86 rfl rfl ?_
        refine g_iload_n (pc' := 57) 1 dX9_of_56 rfl rfl ?_
        refine g_callVip (pc' := 60) (As := [vi a]) (b := 2) (S := []) dX9_of_57 rfl m_X9_98 w_X7_fullOf (c_X7_fullOf_x X M 2 isT_2 (hi.1 _ isT_2) a ha ta tb n P L F Z tv pub.1.ct) rfl ⟨_, _, _, rfl, rfl, rfl⟩ (by decide) (by decide) rfl (Nat.le_of_ble_eq_true rfl) (fun z7 q6 => ?_)
        have q6a := q6.1
        have q6b := q6.2
        unfold szQ at q6b
        clear q6
        refine g_ireturn dX9_of_60 ?_
        exact ⟨rfl, fun q => by have y := (pub.1.2.2.2.2 a.toNat (by omega)).1; omega, fun q => by have y := pub.1.full (i := a.toNat) (by omega); omega, fun q => by omega⟩
  · refine g_aload_n (pc' := 5) 0 dX9_of_4 rfl rfl ?_
    refine g_getR (pc' := 8) dX9_of_5 rfl f_X9_12 rfl rfl ?_
    refine g_getR (pc' := 11) dX9_of_8 rfl f_X9_86 rfl rfl ?_
    refine g_iload_n (pc' := 12) 1 dX9_of_11 rfl rfl ?_
    refine g_callVip (pc' := 15) (As := [vi a]) (b := 2) (S := []) dX9_of_12 rfl m_X9_92 w_X7_has (c_X7_has X M 2 isT_2 (hi.1 _ isT_2) a ha) rfl ⟨_, _, _, rfl, rfl, rfl⟩ (by decide) (by decide) rfl (Nat.le_of_ble_eq_true rfl) (fun z9 q8 => ?_)
    refine g_if_eq (pc' := 18) (tgt := 30) ⟨by omega, by omega⟩ dX9_of_15 rfl rfl (fun c10 => ?_) (fun c10 => ?_)
    · replace q8 := q8.resolve_left (fun h => absurd (c10.symm.trans h.1) (by decide))
      refine g_iload_n (pc' := 31) 2 dX9_of_30 rfl rfl ?_
      refine g_iconst (pc' := 32) dX9_of_31 rfl ?_
      refine g_ic_ne (pc' := 35) (tgt := 61) hb (by decide) dX9_of_32 rfl rfl (fun c11 => ?_) (fun c11 => ?_)
      · refine g_iconst (pc' := 62) dX9_of_61 rfl ?_
        refine g_ireturn dX9_of_62 ?_
        exact ⟨rfl, fun q => by have y := (pub.1.2.2.2.2 a.toNat (by omega)).1; omega, fun q => by have y := pub.1.full (i := a.toNat) (by omega); omega, fun q => by omega⟩
      · refine g_aload_n (pc' := 36) 0 dX9_of_35 rfl rfl ?_
        refine g_getR (pc' := 39) dX9_of_36 rfl f_X9_12 rfl rfl ?_
        refine g_getR (pc' := 42) dX9_of_39 rfl f_X9_86 rfl rfl ?_
        refine g_iload_n (pc' := 43) 1 dX9_of_42 rfl rfl ?_
        refine g_callVip (pc' := 46) (As := [vi a]) (b := 2) (S := []) dX9_of_43 rfl m_X9_92 w_X7_has (c_X7_has X M 2 isT_2 (hi.1 _ isT_2) a ha) rfl ⟨_, _, _, rfl, rfl, rfl⟩ (by decide) (by decide) rfl (Nat.le_of_ble_eq_true rfl) (fun z13 q12 => ?_)
        refine g_if_eq (pc' := 49) (tgt := 61) ⟨by omega, by omega⟩ dX9_of_46 rfl rfl (fun c14 => ?_) (fun c14 => ?_)
        · replace q12 := q12.resolve_left (fun h => absurd (c14.symm.trans h.1) (by decide))
          refine g_iconst (pc' := 62) dX9_of_61 rfl ?_
          refine g_ireturn dX9_of_62 ?_
          exact ⟨rfl, fun q => by have y := (pub.1.2.2.2.2 a.toNat (by omega)).1; omega, fun q => by have y := pub.1.full (i := a.toNat) (by omega); omega, fun q => by omega⟩
        · replace q12 := q12.resolve_right (fun h => c14 h.1)
          refine g_aload_n (pc' := 50) 0 dX9_of_49 rfl rfl ?_
          refine g_getR (pc' := 53) dX9_of_50 rfl f_X9_12 rfl rfl ?_
          refine g_getR (pc' := 56) dX9_of_53 rfl f_X9_86 rfl rfl ?_
          refine g_iload_n (pc' := 57) 1 dX9_of_56 rfl rfl ?_
          refine g_callVip (pc' := 60) (As := [vi a]) (b := 2) (S := []) dX9_of_57 rfl m_X9_98 w_X7_fullOf (c_X7_fullOf_x X M 2 isT_2 (hi.1 _ isT_2) a ha ta tb n P L F Z tv pub.1.ct) rfl ⟨_, _, _, rfl, rfl, rfl⟩ (by decide) (by decide) rfl (Nat.le_of_ble_eq_true rfl) (fun z16 q15 => ?_)
          have q15a := q15.1
          have q15b := q15.2
          unfold szQ at q15b
          clear q15
          refine g_ireturn dX9_of_60 ?_
          exact ⟨rfl, fun q => by have y := (pub.1.2.2.2.2 a.toNat (by omega)).1; omega, fun q => by have y := pub.1.full (i := a.toNat) (by omega); omega, fun q => by omega⟩
    · replace q8 := q8.resolve_right (fun h => c10 h.1)
      refine g_aload_n (pc' := 19) 0 dX9_of_18 rfl rfl ?_
      refine g_getR (pc' := 22) dX9_of_19 rfl f_X9_12 rfl rfl ?_
      refine g_getR (pc' := 25) dX9_of_22 rfl f_X9_86 rfl rfl ?_
      refine g_iload_n (pc' := 26) 1 dX9_of_25 rfl rfl ?_
      refine g_callVip (pc' := 29) (As := [vi a]) (b := 2) (S := []) dX9_of_26 rfl m_X9_95 w_X7_sizeOf (c_X7_sizeOf_x X M 2 isT_2 (hi.1 _ isT_2) a ha ta tb n P L F Z tv pub.1.ct) rfl ⟨_, _, _, rfl, rfl, rfl⟩ (by decide) (by decide) rfl (Nat.le_of_ble_eq_true rfl) (fun z18 q17 => ?_)
      have q17a := q17.1
      have q17b := q17.2
      unfold szQ at q17b
      clear q17
      refine g_ireturn dX9_of_29 ?_
      exact ⟨rfl, fun q => by have y := (pub.1.2.2.2.2 a.toNat (by omega)).1; omega, fun q => by have y := pub.1.full (i := a.toNat) (by omega); omega, fun q => by omega⟩
set_option maxHeartbeats 4000000 in
set_option maxRecDepth 100000 in
theorem c_X9_part_x (X : Cx) (M : Mm) (hi : IC M) (a : Int) (ha : inI a) (b : Int) (hb : inI b) (ta tb : Nat) (n : Int) (P : Nat → Int) (L : Int) (F Z m z : Nat → Int) (tv : TV M 2 ta tb n P L F Z) (pub : PUB n P L F Z m z) : Con X 10 yX9_part cX9_part 3 (some .long) [vr X 0, vi a, vi b] M (Ql (fun r M1 => M1 = M ∧ ((((0 ≤ a ∧ a < n) ∧ (0 ≤ b ∧ b ≤ 3)) → r = m (4 * a + b).toNat) ∧ (¬ ((0 ≤ a ∧ a < n) ∧ (0 ≤ b ∧ b ≤ 3)) → r = -1)))) := by
  refine Con.ofG rfl (Nat.le_of_ble_eq_true rfl) ?_
  show G X 10 RX9 cX9_part 3 (some .long) (Ql (fun r M1 => M1 = M ∧ ((((0 ≤ a ∧ a < n) ∧ (0 ≤ b ∧ b ≤ 3)) → r = m (4 * a + b).toNat) ∧ (¬ ((0 ≤ a ∧ a < n) ∧ (0 ≤ b ∧ b ≤ 3)) → r = -1)))) 0 [(0, vr X 0), (1, vi a), (2, vi b)] [] M
  have tn := tv.2.2.1
  have ctn := pub.1.1
  refine g_aload_n (pc' := 1) 0 dX9_part_0 rfl rfl ?_
  refine g_getR (pc' := 4) dX9_part_1 rfl f_X9_12 rfl rfl ?_
  refine g_getR (pc' := 7) dX9_part_4 rfl f_X9_86 rfl rfl ?_
  refine g_iload_n (pc' := 8) 1 dX9_part_7 rfl rfl ?_
  refine g_callVip (pc' := 11) (As := [vi a]) (b := 2) (S := []) dX9_part_8 rfl m_X9_92 w_X7_has (c_X7_has X M 2 isT_2 (hi.1 _ isT_2) a ha) rfl ⟨_, _, _, rfl, rfl, rfl⟩ (by decide) (by decide) rfl (Nat.le_of_ble_eq_true rfl) (fun z2 q1 => ?_)
  refine g_if_eq (pc' := 14) (tgt := 21) ⟨by omega, by omega⟩ dX9_part_11 rfl rfl (fun c3 => ?_) (fun c3 => ?_)
  · replace q1 := q1.resolve_left (fun h => absurd (c3.symm.trans h.1) (by decide))
    refine g_ldc2 (pc' := 24) (v := (-1)) dX9_part_21 rfl k_X9_104 ?_
    refine g_lreturn dX9_part_24 ?_
    exact ⟨rfl, fun q => by omega, fun q => by omega⟩
  · replace q1 := q1.resolve_right (fun h => c3 h.1)
    refine g_iload_n (pc' := 15) 2 dX9_part_14 rfl rfl ?_
    refine g_callSip (pc' := 18) (As := [vi b]) (S := []) dX9_part_15 rfl m_X9_101 w_X9_isStuff (c_X9_isStuff X M b hb) rfl (by decide) (by decide) rfl (Nat.le_of_ble_eq_true rfl) (fun z5 q4 => ?_)
    refine g_if_ne (pc' := 21) (tgt := 25) ⟨by omega, by omega⟩ dX9_part_18 rfl rfl (fun c6 => ?_) (fun c6 => ?_)
    · replace q4 := q4.resolve_right (fun h => c6 h.1)
      refine g_aload_n (pc' := 26) 0 dX9_part_25 rfl rfl ?_
      refine g_getR (pc' := 29) dX9_part_26 rfl f_X9_12 rfl rfl ?_
      refine g_getR (pc' := 32) dX9_part_29 rfl f_X9_86 rfl rfl ?_
      refine g_iload_n (pc' := 33) 1 dX9_part_32 rfl rfl ?_
      refine g_iload_n (pc' := 34) 2 dX9_part_33 rfl rfl ?_
      refine g_callVlp (pc' := 37) (As := [vi a, vi b]) (b := 2) (S := []) dX9_part_34 rfl m_X9_106 w_X7_partOf (c_X7_partOf_x X M 2 isT_2 (hi.1 _ isT_2) a ha b hb ta tb n P L F Z tv pub.1.ct) rfl ⟨_, _, _, rfl, rfl, rfl⟩ (by decide) (by decide) rfl (Nat.le_of_ble_eq_true rfl) (fun z8 q7 => ?_)
      have q7a := q7.1
      have q7b := q7.2
      clear q7
      refine g_lreturn dX9_part_37 ?_
      exact ⟨rfl, fun q => by have y := pub.1.2.1.eq pub.1.2.2.2.1 pub.2 (k := (a * 4 + b).toNat) (by omega); rw [show (4 * a + b).toNat = (a * 4 + b).toNat by omega]; omega, fun q => by omega⟩
    · replace q4 := q4.resolve_left (fun h => absurd (c6.symm.trans h.1) (by decide))
      refine g_ldc2 (pc' := 24) (v := (-1)) dX9_part_21 rfl k_X9_104 ?_
      refine g_lreturn dX9_part_24 ?_
      exact ⟨rfl, fun q => by omega, fun q => by omega⟩
set_option maxHeartbeats 4000000 in
set_option maxRecDepth 100000 in
theorem c_X9_lower_x (X : Cx) (M : Mm) (hi : IC M) (ta tb : Nat) (n : Int) (P : Nat → Int) (L : Int) (F Z m z : Nat → Int) (tv : TV M 2 ta tb n P L F Z) (pub : PUB n P L F Z m z) : Con X 10 yX9_lower cX9_lower 1 (some .long) [vr X 0] M (Ql (fun r M1 => M1 = M ∧ (r = m 24))) := by
  refine Con.ofG rfl (Nat.le_of_ble_eq_true rfl) ?_
  show G X 10 RX9 cX9_lower 1 (some .long) (Ql (fun r M1 => M1 = M ∧ (r = m 24))) 0 [(0, vr X 0)] [] M
  have tn := tv.2.2.1
  have ctn := pub.1.1
  refine g_aload_n (pc' := 1) 0 dX9_lower_0 rfl rfl ?_
  refine g_getR (pc' := 4) dX9_lower_1 rfl f_X9_12 rfl rfl ?_
  refine g_getR (pc' := 7) dX9_lower_4 rfl f_X9_86 rfl rfl ?_
  refine g_getL (pc' := 10) dX9_lower_7 rfl f_X9_110 rfl rfl (fun v1 ev1 rv1 => ?_)
  refine g_lreturn dX9_lower_10 ?_
  exact ⟨rfl, by rw [ev1, show M 2 4 = L from tv.2.2.2.2.1]; exact pub.2⟩
set_option maxHeartbeats 4000000 in
set_option maxRecDepth 100000 in
theorem c_X9_taste_x (X : Cx) (M : Mm) (hi : IC M) (a : Int) (ha : inI a) (b : Int) (hb : inI b) (ta tb : Nat) (n : Int) (P : Nat → Int) (L : Int) (F Z m z : Nat → Int) (tv : TV M 2 ta tb n P L F Z) (pub : PUB n P L F Z m z) : Con X 10 yX9_taste cX9_taste 3 (some .int) [vr X 0, vi a, vi b] M (Qi (fun r M1 => M1 = M ∧ ((((0 ≤ a ∧ a < n) ∧ (0 ≤ b ∧ b ≤ 3)) → r = tsM m a b) ∧ (¬ ((0 ≤ a ∧ a < n) ∧ (0 ≤ b ∧ b ≤ 3)) → r = -1)))) := by
  refine Con.ofG rfl (Nat.le_of_ble_eq_true rfl) ?_
  show G X 10 RX9 cX9_taste 3 (some .int) (Qi (fun r M1 => M1 = M ∧ ((((0 ≤ a ∧ a < n) ∧ (0 ≤ b ∧ b ≤ 3)) → r = tsM m a b) ∧ (¬ ((0 ≤ a ∧ a < n) ∧ (0 ≤ b ∧ b ≤ 3)) → r = -1)))) 0 [(0, vr X 0), (1, vi a), (2, vi b)] [] M
  have tn := tv.2.2.1
  have ctn := pub.1.1
  refine g_aload_n (pc' := 1) 0 dX9_taste_0 rfl rfl ?_
  refine g_getR (pc' := 4) dX9_taste_1 rfl f_X9_12 rfl rfl ?_
  refine g_getR (pc' := 7) dX9_taste_4 rfl f_X9_86 rfl rfl ?_
  refine g_iload_n (pc' := 8) 1 dX9_taste_7 rfl rfl ?_
  refine g_callVip (pc' := 11) (As := [vi a]) (b := 2) (S := []) dX9_taste_8 rfl m_X9_92 w_X7_has (c_X7_has X M 2 isT_2 (hi.1 _ isT_2) a ha) rfl ⟨_, _, _, rfl, rfl, rfl⟩ (by decide) (by decide) rfl (Nat.le_of_ble_eq_true rfl) (fun z2 q1 => ?_)
  refine g_if_eq (pc' := 14) (tgt := 21) ⟨by omega, by omega⟩ dX9_taste_11 rfl rfl (fun c3 => ?_) (fun c3 => ?_)
  · replace q1 := q1.resolve_left (fun h => absurd (c3.symm.trans h.1) (by decide))
    refine g_iconst (pc' := 22) dX9_taste_21 rfl ?_
    refine g_ireturn dX9_taste_22 ?_
    exact ⟨rfl, fun q => by omega, fun q => by omega⟩
  · replace q1 := q1.resolve_right (fun h => c3 h.1)
    refine g_iload_n (pc' := 15) 2 dX9_taste_14 rfl rfl ?_
    refine g_callSip (pc' := 18) (As := [vi b]) (S := []) dX9_taste_15 rfl m_X9_101 w_X9_isStuff (c_X9_isStuff X M b hb) rfl (by decide) (by decide) rfl (Nat.le_of_ble_eq_true rfl) (fun z5 q4 => ?_)
    refine g_if_ne (pc' := 21) (tgt := 23) ⟨by omega, by omega⟩ dX9_taste_18 rfl rfl (fun c6 => ?_) (fun c6 => ?_)
    · replace q4 := q4.resolve_right (fun h => c6 h.1)
      refine g_aload_n (pc' := 24) 0 dX9_taste_23 rfl rfl ?_
      refine g_getR (pc' := 27) dX9_taste_24 rfl f_X9_12 rfl rfl ?_
      refine g_getR (pc' := 30) dX9_taste_27 rfl f_X9_86 rfl rfl ?_
      refine g_iload_n (pc' := 31) 1 dX9_taste_30 rfl rfl ?_
      refine g_iload_n (pc' := 32) 2 dX9_taste_31 rfl rfl ?_
      refine g_callVip (pc' := 35) (As := [vi a, vi b]) (b := 2) (S := []) dX9_taste_32 rfl m_X9_114 w_X7_tasteOf (c_X7_tasteOf_x X M 2 isT_2 (hi.1 _ isT_2) a ha b hb ta tb n P L F Z tv pub.1.ct) rfl ⟨_, _, _, rfl, rfl, rfl⟩ (by decide) (by decide) rfl (Nat.le_of_ble_eq_true rfl) (fun z8 q7 => ?_)
      have q7a := q7.1
      have q7b := q7.2
      clear q7
      refine g_ireturn dX9_taste_35 ?_
      exact ⟨rfl, fun q => by rw [q7b]; exact TE ctn pub.1.2.1 pub.1.2.2.2.1 (by omega) (by omega), fun q => by omega⟩
    · replace q4 := q4.resolve_left (fun h => absurd (c6.symm.trans h.1) (by decide))
      refine g_iconst (pc' := 22) dX9_taste_21 rfl ?_
      refine g_ireturn dX9_taste_22 ?_
      exact ⟨rfl, fun q => by omega, fun q => by omega⟩
set_option maxHeartbeats 4000000 in
set_option maxRecDepth 100000 in
theorem c_X9_alike_x (X : Cx) (M : Mm) (hi : IC M) (a : Int) (ha : inI a) (b : Int) (hb : inI b) (c : Int) (hc : inI c) (ta tb : Nat) (n : Int) (P : Nat → Int) (L : Int) (F Z m z : Nat → Int) (tv : TV M 2 ta tb n P L F Z) (pub : PUB n P L F Z m z) : Con X 10 yX9_alike cX9_alike 4 (some .int) [vr X 0, vi a, vi b, vi c] M (Qi (fun r M1 => M1 = M ∧ ((((0 ≤ a ∧ a < n) ∧ (0 ≤ b ∧ b < n) ∧ (0 ≤ c ∧ c ≤ 3)) → (r = 1 ∧ AST P F a b c) ∨ (r = 0 ∧ ¬ AST P F a b c)) ∧ (¬ ((0 ≤ a ∧ a < n) ∧ (0 ≤ b ∧ b < n) ∧ (0 ≤ c ∧ c ≤ 3)) → r = -1)))) := by
  refine Con.ofG rfl (Nat.le_of_ble_eq_true rfl) ?_
  show G X 10 RX9 cX9_alike 4 (some .int) (Qi (fun r M1 => M1 = M ∧ ((((0 ≤ a ∧ a < n) ∧ (0 ≤ b ∧ b < n) ∧ (0 ≤ c ∧ c ≤ 3)) → (r = 1 ∧ AST P F a b c) ∨ (r = 0 ∧ ¬ AST P F a b c)) ∧ (¬ ((0 ≤ a ∧ a < n) ∧ (0 ≤ b ∧ b < n) ∧ (0 ≤ c ∧ c ≤ 3)) → r = -1)))) 0 [(0, vr X 0), (1, vi a), (2, vi b), (3, vi c)] [] M
  have tn := tv.2.2.1
  have ctn := pub.1.1
  refine g_aload_n (pc' := 1) 0 dX9_alike_0 rfl rfl ?_
  refine g_getR (pc' := 4) dX9_alike_1 rfl f_X9_12 rfl rfl ?_
  refine g_getR (pc' := 7) dX9_alike_4 rfl f_X9_86 rfl rfl ?_
  refine g_iload_n (pc' := 8) 1 dX9_alike_7 rfl rfl ?_
  refine g_callVip (pc' := 11) (As := [vi a]) (b := 2) (S := []) dX9_alike_8 rfl m_X9_92 w_X7_has (c_X7_has X M 2 isT_2 (hi.1 _ isT_2) a ha) rfl ⟨_, _, _, rfl, rfl, rfl⟩ (by decide) (by decide) rfl (Nat.le_of_ble_eq_true rfl) (fun z2 q1 => ?_)
  refine g_if_eq (pc' := 14) (tgt := 35) ⟨by omega, by omega⟩ dX9_alike_11 rfl rfl (fun c3 => ?_) (fun c3 => ?_)
  · replace q1 := q1.resolve_left (fun h => absurd (c3.symm.trans h.1) (by decide))
    refine g_iconst (pc' := 36) dX9_alike_35 rfl ?_
    refine g_ireturn dX9_alike_36 ?_
    exact ⟨rfl, fun q => by omega, fun q => by omega⟩
  · replace q1 := q1.resolve_right (fun h => c3 h.1)
    refine g_aload_n (pc' := 15) 0 dX9_alike_14 rfl rfl ?_
    refine g_getR (pc' := 18) dX9_alike_15 rfl f_X9_12 rfl rfl ?_
    refine g_getR (pc' := 21) dX9_alike_18 rfl f_X9_86 rfl rfl ?_
    refine g_iload_n (pc' := 22) 2 dX9_alike_21 rfl rfl ?_
    refine g_callVip (pc' := 25) (As := [vi b]) (b := 2) (S := []) dX9_alike_22 rfl m_X9_92 w_X7_has (c_X7_has X M 2 isT_2 (hi.1 _ isT_2) b hb) rfl ⟨_, _, _, rfl, rfl, rfl⟩ (by decide) (by decide) rfl (Nat.le_of_ble_eq_true rfl) (fun z5 q4 => ?_)
    refine g_if_eq (pc' := 28) (tgt := 35) ⟨by omega, by omega⟩ dX9_alike_25 rfl rfl (fun c6 => ?_) (fun c6 => ?_)
    · replace q4 := q4.resolve_left (fun h => absurd (c6.symm.trans h.1) (by decide))
      refine g_iconst (pc' := 36) dX9_alike_35 rfl ?_
      refine g_ireturn dX9_alike_36 ?_
      exact ⟨rfl, fun q => by omega, fun q => by omega⟩
    · replace q4 := q4.resolve_right (fun h => c6 h.1)
      refine g_iload_n (pc' := 29) 3 dX9_alike_28 rfl rfl ?_
      refine g_callSip (pc' := 32) (As := [vi c]) (S := []) dX9_alike_29 rfl m_X9_101 w_X9_isStuff (c_X9_isStuff X M c hc) rfl (by decide) (by decide) rfl (Nat.le_of_ble_eq_true rfl) (fun z8 q7 => ?_)
      refine g_if_ne (pc' := 35) (tgt := 37) ⟨by omega, by omega⟩ dX9_alike_32 rfl rfl (fun c9 => ?_) (fun c9 => ?_)
      · replace q7 := q7.resolve_right (fun h => c9 h.1)
        refine g_aload_n (pc' := 38) 0 dX9_alike_37 rfl rfl ?_
        refine g_getR (pc' := 41) dX9_alike_38 rfl f_X9_12 rfl rfl ?_
        refine g_getR (pc' := 44) dX9_alike_41 rfl f_X9_86 rfl rfl ?_
        refine g_iload_n (pc' := 45) 1 dX9_alike_44 rfl rfl ?_
        refine g_iload_n (pc' := 46) 2 dX9_alike_45 rfl rfl ?_
        refine g_iload_n (pc' := 47) 3 dX9_alike_46 rfl rfl ?_
        refine g_callVip (pc' := 50) (As := [vi a, vi b, vi c]) (b := 2) (S := []) dX9_alike_47 rfl m_X9_183 w_X7_asStrong (c_X7_asStrong_x X M 2 isT_2 (hi.1 _ isT_2) a ha b hb c hc ta tb n P L F Z tv pub.1.ct (by omega) (by omega) (by omega)) rfl ⟨_, _, _, rfl, rfl, rfl⟩ (by decide) (by decide) rfl (Nat.le_of_ble_eq_true rfl) (fun z11 q10 => ?_)
        refine g_if_eq (pc' := 53) (tgt := 57) ⟨by omega, by omega⟩ dX9_alike_50 rfl rfl (fun c12 => ?_) (fun c12 => ?_)
        · replace q10 := q10.resolve_left (fun h => absurd (c12.symm.trans h.1) (by decide))
          refine g_iconst (pc' := 58) dX9_alike_57 rfl ?_
          refine g_ireturn dX9_alike_58 ?_
          exact ⟨rfl, fun q => Or.inr ⟨rfl, q10.2⟩, fun q => by omega⟩
        · replace q10 := q10.resolve_right (fun h => c12 h.1)
          refine g_iconst (pc' := 54) dX9_alike_53 rfl ?_
          refine g_goto (tgt := 58) dX9_alike_54 rfl ?_
          refine g_ireturn dX9_alike_58 ?_
          exact ⟨rfl, fun q => Or.inl ⟨rfl, q10.2⟩, fun q => by omega⟩
      · replace q7 := q7.resolve_left (fun h => absurd (c9.symm.trans h.1) (by decide))
        refine g_iconst (pc' := 36) dX9_alike_35 rfl ?_
        refine g_ireturn dX9_alike_36 ?_
        exact ⟨rfl, fun q => by omega, fun q => by omega⟩
