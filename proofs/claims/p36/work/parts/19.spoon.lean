set_option maxHeartbeats 4000000 in
set_option maxRecDepth 100000 in
theorem c_X9_answered (X : Cx) (M : Mm) (hi : IC M) (a : Int) (ha : inI a) : Con X 1 yX9_answered cX9_answered 3 (some .int) [vr X 0, vi a] M (Qi (fun r M1 => IC M1 ∧ Fr (fun c => c = 0 ∨ c = 96) M M1 ∧ M1 2 5 = M 2 5 ∧ M1 1 2 = M 1 2 ∧ M1 1 4 = M 1 4 ∧ M1 1 6 = M 1 6 ∧ M1 11 5 = M 11 5 ∧ M1 10 2 = M 10 2 ∧ M1 10 4 = M 10 4 ∧ M1 10 6 = M 10 6 ∧ M1 20 5 = M 20 5 ∧ M1 19 2 = M 19 2 ∧ M1 19 4 = M 19 4 ∧ M1 19 6 = M 19 6 ∧ M1 29 0 = M 29 0 ∧ M1 29 1 = M 29 1 ∧ M1 31 1 = M 31 1 ∧ (r = a))) := by
  refine Con.ofG rfl (Nat.le_of_ble_eq_true rfl) ?_
  show G X 1 RX9 cX9_answered 3 (some .int) (Qi (fun r M1 => IC M1 ∧ Fr (fun c => c = 0 ∨ c = 96) M M1 ∧ M1 2 5 = M 2 5 ∧ M1 1 2 = M 1 2 ∧ M1 1 4 = M 1 4 ∧ M1 1 6 = M 1 6 ∧ M1 11 5 = M 11 5 ∧ M1 10 2 = M 10 2 ∧ M1 10 4 = M 10 4 ∧ M1 10 6 = M 10 6 ∧ M1 20 5 = M 20 5 ∧ M1 19 2 = M 19 2 ∧ M1 19 4 = M 19 4 ∧ M1 19 6 = M 19 6 ∧ M1 29 0 = M 29 0 ∧ M1 29 1 = M 29 1 ∧ M1 31 1 = M 31 1 ∧ (r = a))) 0 [(0, vr X 0), (1, vi a)] [] M
  refine g_aload_n (pc' := 1) 0 dX9_answered_0 rfl rfl ?_
  refine g_iload_n (pc' := 2) 1 dX9_answered_1 rfl rfl ?_
  refine g_iconst (pc' := 3) dX9_answered_2 rfl ?_
  refine g_mmin (pc' := 6) dX9_answered_3 rfl m_X9_298 ms_min mi_Math mc_min (by decide) (Nat.le_of_ble_eq_true rfl) ha (by decide) ?_
  obtain ⟨v1, ev1⟩ : ∃ z : Int, z = if 0 < a then 0 else a := ⟨_, rfl⟩
  rw [← ev1]
  refine g_putI (pc' := 9) dX9_answered_6 rfl p_X9_295 rfl rfl ⟨by omega, by omega⟩ (fun M2 hM2 => ?_)
  have iM2 : IC M2 := IC.wr hi hM2 (by unfold okw isT; first | decide | omega)
  have fM2 : Fr (fun c => c = 0 ∨ c = 96) M M2 := Fr.wr Fr.rf hM2 (by first | decide | omega | (dsimp only; omega))
  have q2_5_M2 : id (M2 2 5 = M 2 5) := (show M2 2 5 = M 2 5 by rw [hM2]; exact mu_ne _ _ (by first | decide | omega))
  have q1_2_M2 : id (M2 1 2 = M 1 2) := (show M2 1 2 = M 1 2 by rw [hM2]; exact mu_ne _ _ (by first | decide | omega))
  have q1_4_M2 : id (M2 1 4 = M 1 4) := (show M2 1 4 = M 1 4 by rw [hM2]; exact mu_ne _ _ (by first | decide | omega))
  have q1_6_M2 : id (M2 1 6 = M 1 6) := (show M2 1 6 = M 1 6 by rw [hM2]; exact mu_ne _ _ (by first | decide | omega))
  have q11_5_M2 : id (M2 11 5 = M 11 5) := (show M2 11 5 = M 11 5 by rw [hM2]; exact mu_ne _ _ (by first | decide | omega))
  have q10_2_M2 : id (M2 10 2 = M 10 2) := (show M2 10 2 = M 10 2 by rw [hM2]; exact mu_ne _ _ (by first | decide | omega))
  have q10_4_M2 : id (M2 10 4 = M 10 4) := (show M2 10 4 = M 10 4 by rw [hM2]; exact mu_ne _ _ (by first | decide | omega))
  have q10_6_M2 : id (M2 10 6 = M 10 6) := (show M2 10 6 = M 10 6 by rw [hM2]; exact mu_ne _ _ (by first | decide | omega))
  have q20_5_M2 : id (M2 20 5 = M 20 5) := (show M2 20 5 = M 20 5 by rw [hM2]; exact mu_ne _ _ (by first | decide | omega))
  have q19_2_M2 : id (M2 19 2 = M 19 2) := (show M2 19 2 = M 19 2 by rw [hM2]; exact mu_ne _ _ (by first | decide | omega))
  have q19_4_M2 : id (M2 19 4 = M 19 4) := (show M2 19 4 = M 19 4 by rw [hM2]; exact mu_ne _ _ (by first | decide | omega))
  have q19_6_M2 : id (M2 19 6 = M 19 6) := (show M2 19 6 = M 19 6 by rw [hM2]; exact mu_ne _ _ (by first | decide | omega))
  have q29_0_M2 : id (M2 29 0 = M 29 0) := (show M2 29 0 = M 29 0 by rw [hM2]; exact mu_ne _ _ (by first | decide | omega))
  have q29_1_M2 : id (M2 29 1 = M 29 1) := (show M2 29 1 = M 29 1 by rw [hM2]; exact mu_ne _ _ (by first | decide | omega))
  have q31_1_M2 : id (M2 31 1 = M 31 1) := (show M2 31 1 = M 31 1 by rw [hM2]; exact mu_ne _ _ (by first | decide | omega))
  have xM2_0_10 : M2 0 10 = v1 := by rw [hM2]; exact mu_at _ _ _ _
  refine g_aload_n (pc' := 10) 0 dX9_answered_9 rfl rfl ?_
  refine g_getI (pc' := 13) dX9_answered_10 rfl f_X9_295 rfl rfl (fun v3 ev3 rv3 => ?_)
  have yv3 : v3 = v1 := ev3.trans xM2_0_10
  refine g_callSip (pc' := 16) (As := [vi v3]) (S := []) dX9_answered_13 rfl m_X9_303 w_X9_refusalPlace (c_X9_refusalPlace X M2 v3 rv3) rfl (by decide) (by decide) rfl (Nat.le_of_ble_eq_true rfl) (fun z5 q4 => ?_)
  refine g_istore_n (pc' := 17) (i := 2) (L' := [(2, vi z5), (0, vr X 0), (1, vi a)]) dX9_answered_16 rfl rfl (by decide) rfl ?_
  refine g_iload_n (pc' := 18) 0 dX9_answered_17 rfl rfl ?_
  refine g_iconst (pc' := 19) dX9_answered_18 rfl ?_
  refine g_ic_eq (pc' := 22) (tgt := 32) ⟨by omega, by omega⟩ (by decide) dX9_answered_19 rfl rfl (fun c6 => ?_) (fun c6 => ?_)
  · refine g_iload_n (pc' := 33) 2 dX9_answered_32 rfl rfl ?_
    refine g_ireturn dX9_answered_33 ?_
    exact ⟨iM2, fM2, q2_5_M2, q1_2_M2, q1_4_M2, q1_6_M2, q11_5_M2, q10_2_M2, q10_4_M2, q10_6_M2, q20_5_M2, q19_2_M2, q19_4_M2, q19_6_M2, q29_0_M2, q29_1_M2, q31_1_M2, by omega⟩
  · refine g_aload_n (pc' := 23) 1 dX9_answered_22 rfl rfl ?_
    refine g_getR (pc' := 26) dX9_answered_23 rfl f_X9_64 rfl rfl ?_
    refine g_iload_n (pc' := 27) 0 dX9_answered_26 rfl rfl ?_
    refine g_dup2_11 (pc' := 28) dX9_answered_27 rfl rfl rfl ?_
    refine g_iald (pc' := 29) dX9_answered_28 rfl rfl (by omega) (by omega) (fun v7 ev7 rv7 => ?_)
    refine g_iconst (pc' := 30) dX9_answered_29 rfl ?_
    refine g_iadd (pc' := 31) dX9_answered_30 rfl ?_
    refine g_nrmI (fun n8 rn8 en8 => ?_)
    have bn8 : (-2147483648 ≤ v7 + 1 ∧ v7 + 1 ≤ 2147483647) → n8 = v7 + 1 := fun h => en8.trans (bm32 h)
    refine g_iast (pc' := 32) dX9_answered_31 rfl rfl (by omega) (by omega) rn8 (fun M9 hM9 => ?_)
    have iM9 : IC M9 := IC.wr iM2 hM9 (by unfold okw isT; first | decide | omega)
    have fM9 : Fr (fun c => c = 0 ∨ c = 96) M M9 := Fr.wr fM2 hM9 (by first | decide | omega | (dsimp only; omega))
    have q2_5_M9 : id (M9 2 5 = M 2 5) := (show M9 2 5 = M2 2 5 by rw [hM9]; exact mu_ne _ _ (by first | decide | omega)).trans q2_5_M2
    have q1_2_M9 : id (M9 1 2 = M 1 2) := (show M9 1 2 = M2 1 2 by rw [hM9]; exact mu_ne _ _ (by first | decide | omega)).trans q1_2_M2
    have q1_4_M9 : id (M9 1 4 = M 1 4) := (show M9 1 4 = M2 1 4 by rw [hM9]; exact mu_ne _ _ (by first | decide | omega)).trans q1_4_M2
    have q1_6_M9 : id (M9 1 6 = M 1 6) := (show M9 1 6 = M2 1 6 by rw [hM9]; exact mu_ne _ _ (by first | decide | omega)).trans q1_6_M2
    have q11_5_M9 : id (M9 11 5 = M 11 5) := (show M9 11 5 = M2 11 5 by rw [hM9]; exact mu_ne _ _ (by first | decide | omega)).trans q11_5_M2
    have q10_2_M9 : id (M9 10 2 = M 10 2) := (show M9 10 2 = M2 10 2 by rw [hM9]; exact mu_ne _ _ (by first | decide | omega)).trans q10_2_M2
    have q10_4_M9 : id (M9 10 4 = M 10 4) := (show M9 10 4 = M2 10 4 by rw [hM9]; exact mu_ne _ _ (by first | decide | omega)).trans q10_4_M2
    have q10_6_M9 : id (M9 10 6 = M 10 6) := (show M9 10 6 = M2 10 6 by rw [hM9]; exact mu_ne _ _ (by first | decide | omega)).trans q10_6_M2
    have q20_5_M9 : id (M9 20 5 = M 20 5) := (show M9 20 5 = M2 20 5 by rw [hM9]; exact mu_ne _ _ (by first | decide | omega)).trans q20_5_M2
    have q19_2_M9 : id (M9 19 2 = M 19 2) := (show M9 19 2 = M2 19 2 by rw [hM9]; exact mu_ne _ _ (by first | decide | omega)).trans q19_2_M2
    have q19_4_M9 : id (M9 19 4 = M 19 4) := (show M9 19 4 = M2 19 4 by rw [hM9]; exact mu_ne _ _ (by first | decide | omega)).trans q19_4_M2
    have q19_6_M9 : id (M9 19 6 = M 19 6) := (show M9 19 6 = M2 19 6 by rw [hM9]; exact mu_ne _ _ (by first | decide | omega)).trans q19_6_M2
    have q29_0_M9 : id (M9 29 0 = M 29 0) := (show M9 29 0 = M2 29 0 by rw [hM9]; exact mu_ne _ _ (by first | decide | omega)).trans q29_0_M2
    have q29_1_M9 : id (M9 29 1 = M 29 1) := (show M9 29 1 = M2 29 1 by rw [hM9]; exact mu_ne _ _ (by first | decide | omega)).trans q29_1_M2
    have q31_1_M9 : id (M9 31 1 = M 31 1) := (show M9 31 1 = M2 31 1 by rw [hM9]; exact mu_ne _ _ (by first | decide | omega)).trans q31_1_M2
    have xM9_0_10 : M9 0 10 = v1 := (show M9 0 10 = M2 0 10 by rw [hM9]; exact mu_ne _ _ (by first | decide | omega)).trans xM2_0_10
    refine g_iload_n (pc' := 33) 2 dX9_answered_32 rfl rfl ?_
    refine g_ireturn dX9_answered_33 ?_
    exact ⟨iM9, fM9, q2_5_M9, q1_2_M9, q1_4_M9, q1_6_M9, q11_5_M9, q10_2_M9, q10_4_M9, q10_6_M9, q20_5_M9, q19_2_M9, q19_4_M9, q19_6_M9, q29_0_M9, q29_1_M9, q31_1_M9, by omega⟩
set_option maxHeartbeats 4000000 in
set_option maxRecDepth 100000 in
theorem c_X9_addGlass (X : Cx) (M : Mm) (hi : IC M) (a : Int) (ha : inI a) : Con X 3 yX9_addGlass cX9_addGlass 2 (some .int) [vr X 0, vi a] M (Qi (fun r M1 => IC M1 ∧ Fr (fun c => 2 ≤ c ∧ c ≤ 6) M M1 ∧ M1 1 2 = M 1 2 ∧ M1 1 4 = M 1 4 ∧ M1 1 6 = M 1 6 ∧ M1 11 5 = M 11 5 ∧ M1 10 2 = M 10 2 ∧ M1 10 4 = M 10 4 ∧ M1 10 6 = M 10 6 ∧ M1 20 5 = M 20 5 ∧ M1 19 2 = M 19 2 ∧ M1 19 4 = M 19 4 ∧ M1 19 6 = M 19 6 ∧ M1 29 0 = M 29 0 ∧ M1 29 1 = M 29 1 ∧ M1 31 1 = M 31 1 ∧ (((a < 1 ∨ 60 < a) → r = -1 ∧ M1 2 5 = M 2 5) ∧ (1 ≤ a → a ≤ 60 → M 2 5 = 6 → r = -5 ∧ M1 2 5 = M 2 5) ∧ (1 ≤ a → a ≤ 60 → M 2 5 < 6 → r = M 2 5 ∧ M1 2 5 = M 2 5 + 1)))) := by
  refine Con.ofG rfl (Nat.le_of_ble_eq_true rfl) ?_
  show G X 3 RX9 cX9_addGlass 2 (some .int) (Qi (fun r M1 => IC M1 ∧ Fr (fun c => 2 ≤ c ∧ c ≤ 6) M M1 ∧ M1 1 2 = M 1 2 ∧ M1 1 4 = M 1 4 ∧ M1 1 6 = M 1 6 ∧ M1 11 5 = M 11 5 ∧ M1 10 2 = M 10 2 ∧ M1 10 4 = M 10 4 ∧ M1 10 6 = M 10 6 ∧ M1 20 5 = M 20 5 ∧ M1 19 2 = M 19 2 ∧ M1 19 4 = M 19 4 ∧ M1 19 6 = M 19 6 ∧ M1 29 0 = M 29 0 ∧ M1 29 1 = M 29 1 ∧ M1 31 1 = M 31 1 ∧ (((a < 1 ∨ 60 < a) → r = -1 ∧ M1 2 5 = M 2 5) ∧ (1 ≤ a → a ≤ 60 → M 2 5 = 6 → r = -5 ∧ M1 2 5 = M 2 5) ∧ (1 ≤ a → a ≤ 60 → M 2 5 < 6 → r = M 2 5 ∧ M1 2 5 = M 2 5 + 1)))) 0 [(0, vr X 0), (1, vi a)] [] M
  have hi5 := (hi.1 2 isT_2).2.1
  have hi4 := (hi.1 2 isT_2).1
  have h12 := hi.2.1.1.1
  have h14 := hi.2.1.1.2.1
  have h16 := hi.2.1.1.2.2
  refine g_iload_n (pc' := 1) 1 dX9_addGlass_0 rfl rfl ?_
  refine g_callSip (pc' := 4) (As := [vi a]) (S := []) dX9_addGlass_1 rfl m_X9_82 w_X9_isAmount (c_X9_isAmount X M a ha) rfl (by decide) (by decide) rfl (Nat.le_of_ble_eq_true rfl) (fun z2 q1 => ?_)
  refine g_if_ne (pc' := 7) (tgt := 9) ⟨by omega, by omega⟩ dX9_addGlass_4 rfl rfl (fun c3 => ?_) (fun c3 => ?_)
  · replace q1 := q1.resolve_right (fun h => c3 h.1)
    refine g_aload_n (pc' := 10) 0 dX9_addGlass_9 rfl rfl ?_
    refine g_getR (pc' := 13) dX9_addGlass_10 rfl f_X9_12 rfl rfl ?_
    refine g_getR (pc' := 16) dX9_addGlass_13 rfl f_X9_86 rfl rfl ?_
    refine g_iload_n (pc' := 17) 1 dX9_addGlass_16 rfl rfl ?_
    refine g_callVi (pc' := 20) (As := [vi a]) (b := 2) (S := []) dX9_addGlass_17 rfl m_X9_89 w_X7_add (c_X7_add X M 2 isT_2 (hi.1 _ isT_2) a ha) rfl ⟨_, _, _, rfl, rfl, rfl⟩ (by decide) (by decide) rfl (Nat.le_of_ble_eq_true rfl) (fun z5 M6 q4 => ?_)
    obtain ⟨kM6, fM60, gM60, pM6⟩ := q4
    have iM6 : IC M6 := IC.ofT hi isT_2 fM60 kM6
    have fM6 : Fr (fun c => 2 ≤ c ∧ c ≤ 6) M M6 := Fr.tr Fr.rf fM60 (fun c z => by unfold inT at z; first | omega | (dsimp only; omega))
    have q1_2_M6 : id (M6 1 2 = M 1 2) := (congrFun (fM60 1 (by unfold inT; first | decide | omega)) 2)
    have q1_4_M6 : id (M6 1 4 = M 1 4) := (congrFun (fM60 1 (by unfold inT; first | decide | omega)) 4)
    have q1_6_M6 : id (M6 1 6 = M 1 6) := (congrFun (fM60 1 (by unfold inT; first | decide | omega)) 6)
    have q11_5_M6 : id (M6 11 5 = M 11 5) := (congrFun (fM60 11 (by unfold inT; first | decide | omega)) 5)
    have q10_2_M6 : id (M6 10 2 = M 10 2) := (congrFun (fM60 10 (by unfold inT; first | decide | omega)) 2)
    have q10_4_M6 : id (M6 10 4 = M 10 4) := (congrFun (fM60 10 (by unfold inT; first | decide | omega)) 4)
    have q10_6_M6 : id (M6 10 6 = M 10 6) := (congrFun (fM60 10 (by unfold inT; first | decide | omega)) 6)
    have q20_5_M6 : id (M6 20 5 = M 20 5) := (congrFun (fM60 20 (by unfold inT; first | decide | omega)) 5)
    have q19_2_M6 : id (M6 19 2 = M 19 2) := (congrFun (fM60 19 (by unfold inT; first | decide | omega)) 2)
    have q19_4_M6 : id (M6 19 4 = M 19 4) := (congrFun (fM60 19 (by unfold inT; first | decide | omega)) 4)
    have q19_6_M6 : id (M6 19 6 = M 19 6) := (congrFun (fM60 19 (by unfold inT; first | decide | omega)) 6)
    have q29_0_M6 : id (M6 29 0 = M 29 0) := (congrFun (fM60 29 (by unfold inT; first | decide | omega)) 0)
    have q29_1_M6 : id (M6 29 1 = M 29 1) := (congrFun (fM60 29 (by unfold inT; first | decide | omega)) 1)
    have q31_1_M6 : id (M6 31 1 = M 31 1) := (congrFun (fM60 31 (by unfold inT; first | decide | omega)) 1)
    refine g_ireturn dX9_addGlass_20 ?_
    exact ⟨iM6, fM6, q1_2_M6, q1_4_M6, q1_6_M6, q11_5_M6, q10_2_M6, q10_4_M6, q10_6_M6, q20_5_M6, q19_2_M6, q19_4_M6, q19_6_M6, q29_0_M6, q29_1_M6, q31_1_M6, by omega⟩
  · replace q1 := q1.resolve_left (fun h => absurd (c3.symm.trans h.1) (by decide))
    refine g_iconst (pc' := 8) dX9_addGlass_7 rfl ?_
    refine g_ireturn dX9_addGlass_8 ?_
    exact ⟨hi, Fr.rf, rfl, rfl, rfl, rfl, rfl, rfl, rfl, rfl, rfl, rfl, rfl, rfl, rfl, rfl, by omega⟩
set_option maxHeartbeats 4000000 in
set_option maxRecDepth 100000 in
theorem c_X9_glass (X : Cx) (M : Mm) (hi : IC M) (a : Int) (ha : inI a) : Con X 4 yX9_glass cX9_glass 2 (some .int) [vr X 0, vi a] M (Qi (fun r M1 => IC M1 ∧ Fr (fun c => c ≤ 96) M M1 ∧ M1 1 2 = M 1 2 ∧ M1 1 4 = M 1 4 ∧ M1 1 6 = M 1 6 ∧ M1 11 5 = M 11 5 ∧ M1 10 2 = M 10 2 ∧ M1 10 4 = M 10 4 ∧ M1 10 6 = M 10 6 ∧ M1 20 5 = M 20 5 ∧ M1 19 2 = M 19 2 ∧ M1 19 4 = M 19 4 ∧ M1 19 6 = M 19 6 ∧ M1 29 0 = M 29 0 ∧ M1 29 1 = M 29 1 ∧ M1 31 1 = M 31 1 ∧ (((a < 1 ∨ 60 < a) → r = -1 ∧ M1 2 5 = M 2 5) ∧ (1 ≤ a → a ≤ 60 → M 2 5 = 6 → r = -5 ∧ M1 2 5 = M 2 5) ∧ (1 ≤ a → a ≤ 60 → M 2 5 < 6 → r = M 2 5 ∧ M1 2 5 = M 2 5 + 1)))) := by
  refine Con.ofG rfl (Nat.le_of_ble_eq_true rfl) ?_
  show G X 4 RX9 cX9_glass 2 (some .int) (Qi (fun r M1 => IC M1 ∧ Fr (fun c => c ≤ 96) M M1 ∧ M1 1 2 = M 1 2 ∧ M1 1 4 = M 1 4 ∧ M1 1 6 = M 1 6 ∧ M1 11 5 = M 11 5 ∧ M1 10 2 = M 10 2 ∧ M1 10 4 = M 10 4 ∧ M1 10 6 = M 10 6 ∧ M1 20 5 = M 20 5 ∧ M1 19 2 = M 19 2 ∧ M1 19 4 = M 19 4 ∧ M1 19 6 = M 19 6 ∧ M1 29 0 = M 29 0 ∧ M1 29 1 = M 29 1 ∧ M1 31 1 = M 31 1 ∧ (((a < 1 ∨ 60 < a) → r = -1 ∧ M1 2 5 = M 2 5) ∧ (1 ≤ a → a ≤ 60 → M 2 5 = 6 → r = -5 ∧ M1 2 5 = M 2 5) ∧ (1 ≤ a → a ≤ 60 → M 2 5 < 6 → r = M 2 5 ∧ M1 2 5 = M 2 5 + 1)))) 0 [(0, vr X 0), (1, vi a)] [] M
  have hi5 := (hi.1 2 isT_2).2.1
  have hi4 := (hi.1 2 isT_2).1
  have h12 := hi.2.1.1.1
  have h14 := hi.2.1.1.2.1
  have h16 := hi.2.1.1.2.2
  refine g_aload_n (pc' := 1) 0 dX9_glass_0 rfl rfl ?_
  refine g_aload_n (pc' := 2) 0 dX9_glass_1 rfl rfl ?_
  refine g_iload_n (pc' := 3) 1 dX9_glass_2 rfl rfl ?_
  refine g_callVi (pc' := 6) (As := [vi a]) (b := 0) (S := [vr X 0]) dX9_glass_3 rfl m_X9_75 w_X9_addGlass (c_X9_addGlass X M hi a ha) rfl ⟨_, _, _, rfl, rfl, rfl⟩ (by decide) (by decide) rfl (Nat.le_of_ble_eq_true rfl) (fun z2 M3 q1 => ?_)
  obtain ⟨iM3, fM30, eM3_1_2, eM3_1_4, eM3_1_6, eM3_11_5, eM3_10_2, eM3_10_4, eM3_10_6, eM3_20_5, eM3_19_2, eM3_19_4, eM3_19_6, eM3_29_0, eM3_29_1, eM3_31_1, pM3⟩ := q1
  have fM3 : Fr (fun c => c ≤ 96) M M3 := Fr.tr Fr.rf fM30 fi_9
  have q1_2_M3 : id (M3 1 2 = M 1 2) := eM3_1_2
  have q1_4_M3 : id (M3 1 4 = M 1 4) := eM3_1_4
  have q1_6_M3 : id (M3 1 6 = M 1 6) := eM3_1_6
  have q11_5_M3 : id (M3 11 5 = M 11 5) := eM3_11_5
  have q10_2_M3 : id (M3 10 2 = M 10 2) := eM3_10_2
  have q10_4_M3 : id (M3 10 4 = M 10 4) := eM3_10_4
  have q10_6_M3 : id (M3 10 6 = M 10 6) := eM3_10_6
  have q20_5_M3 : id (M3 20 5 = M 20 5) := eM3_20_5
  have q19_2_M3 : id (M3 19 2 = M 19 2) := eM3_19_2
  have q19_4_M3 : id (M3 19 4 = M 19 4) := eM3_19_4
  have q19_6_M3 : id (M3 19 6 = M 19 6) := eM3_19_6
  have q29_0_M3 : id (M3 29 0 = M 29 0) := eM3_29_0
  have q29_1_M3 : id (M3 29 1 = M 29 1) := eM3_29_1
  have q31_1_M3 : id (M3 31 1 = M 31 1) := eM3_31_1
  clear eM3_1_2 eM3_1_4 eM3_1_6 eM3_11_5 eM3_10_2 eM3_10_4 eM3_10_6 eM3_20_5 eM3_19_2 eM3_19_4 eM3_19_6 eM3_29_0 eM3_29_1 eM3_31_1
  refine g_callVi (pc' := 9) (As := [vi z2]) (b := 0) (S := []) dX9_glass_6 rfl m_X9_79 w_X9_answered (c_X9_answered X M3 iM3 z2 ⟨by omega, by omega⟩) rfl ⟨_, _, _, rfl, rfl, rfl⟩ (by decide) (by decide) rfl (Nat.le_of_ble_eq_true rfl) (fun z5 M6 q4 => ?_)
  obtain ⟨iM6, fM60, eM6_2_5, eM6_1_2, eM6_1_4, eM6_1_6, eM6_11_5, eM6_10_2, eM6_10_4, eM6_10_6, eM6_20_5, eM6_19_2, eM6_19_4, eM6_19_6, eM6_29_0, eM6_29_1, eM6_31_1, pM6⟩ := q4
  have fM6 : Fr (fun c => c ≤ 96) M M6 := Fr.tr fM3 fM60 fi_10
  have q1_2_M6 : id (M6 1 2 = M 1 2) := eM6_1_2.trans q1_2_M3
  have q1_4_M6 : id (M6 1 4 = M 1 4) := eM6_1_4.trans q1_4_M3
  have q1_6_M6 : id (M6 1 6 = M 1 6) := eM6_1_6.trans q1_6_M3
  have q11_5_M6 : id (M6 11 5 = M 11 5) := eM6_11_5.trans q11_5_M3
  have q10_2_M6 : id (M6 10 2 = M 10 2) := eM6_10_2.trans q10_2_M3
  have q10_4_M6 : id (M6 10 4 = M 10 4) := eM6_10_4.trans q10_4_M3
  have q10_6_M6 : id (M6 10 6 = M 10 6) := eM6_10_6.trans q10_6_M3
  have q20_5_M6 : id (M6 20 5 = M 20 5) := eM6_20_5.trans q20_5_M3
  have q19_2_M6 : id (M6 19 2 = M 19 2) := eM6_19_2.trans q19_2_M3
  have q19_4_M6 : id (M6 19 4 = M 19 4) := eM6_19_4.trans q19_4_M3
  have q19_6_M6 : id (M6 19 6 = M 19 6) := eM6_19_6.trans q19_6_M3
  have q29_0_M6 : id (M6 29 0 = M 29 0) := eM6_29_0.trans q29_0_M3
  have q29_1_M6 : id (M6 29 1 = M 29 1) := eM6_29_1.trans q29_1_M3
  have q31_1_M6 : id (M6 31 1 = M 31 1) := eM6_31_1.trans q31_1_M3
  have wM6_2_5 : M6 2 5 = M3 2 5 := eM6_2_5
  clear eM6_1_2 eM6_1_4 eM6_1_6 eM6_11_5 eM6_10_2 eM6_10_4 eM6_10_6 eM6_20_5 eM6_19_2 eM6_19_4 eM6_19_6 eM6_29_0 eM6_29_1 eM6_31_1
  refine g_ireturn dX9_glass_9 ?_
  exact ⟨iM6, fM6, q1_2_M6, q1_4_M6, q1_6_M6, q11_5_M6, q10_2_M6, q10_4_M6, q10_6_M6, q20_5_M6, q19_2_M6, q19_4_M6, q19_6_M6, q29_0_M6, q29_1_M6, q31_1_M6, by omega⟩
set_option maxHeartbeats 4000000 in
set_option maxRecDepth 100000 in
theorem c_X9_fillGlass (X : Cx) (M : Mm) (hi : IC M) (a : Int) (ha : inI a) (b : Int) (hb : inI b) (c : Int) (hc : inI c) : Con X 3 yX9_fillGlass cX9_fillGlass 5 (some .int) [vr X 0, vi a, vi b, vi c] M (Qi (fun r M1 => IC M1 ∧ Fr (fun c => 2 ≤ c ∧ c ≤ 6) M M1 ∧ M1 2 5 = M 2 5 ∧ M1 1 2 = M 1 2 ∧ M1 1 4 = M 1 4 ∧ M1 1 6 = M 1 6 ∧ M1 11 5 = M 11 5 ∧ M1 10 2 = M 10 2 ∧ M1 10 4 = M 10 4 ∧ M1 10 6 = M 10 6 ∧ M1 20 5 = M 20 5 ∧ M1 19 2 = M 19 2 ∧ M1 19 4 = M 19 4 ∧ M1 19 6 = M 19 6 ∧ M1 29 0 = M 29 0 ∧ M1 29 1 = M 29 1 ∧ M1 31 1 = M 31 1 ∧ (inI r))) := by
  refine Con.ofG rfl (Nat.le_of_ble_eq_true rfl) ?_
  show G X 3 RX9 cX9_fillGlass 5 (some .int) (Qi (fun r M1 => IC M1 ∧ Fr (fun c => 2 ≤ c ∧ c ≤ 6) M M1 ∧ M1 2 5 = M 2 5 ∧ M1 1 2 = M 1 2 ∧ M1 1 4 = M 1 4 ∧ M1 1 6 = M 1 6 ∧ M1 11 5 = M 11 5 ∧ M1 10 2 = M 10 2 ∧ M1 10 4 = M 10 4 ∧ M1 10 6 = M 10 6 ∧ M1 20 5 = M 20 5 ∧ M1 19 2 = M 19 2 ∧ M1 19 4 = M 19 4 ∧ M1 19 6 = M 19 6 ∧ M1 29 0 = M 29 0 ∧ M1 29 1 = M 29 1 ∧ M1 31 1 = M 31 1 ∧ (inI r))) 0 [(0, vr X 0), (1, vi a), (2, vi b), (3, vi c)] [] M
  refine g_iload_n (pc' := 1) 2 dX9_fillGlass_0 rfl rfl ?_
  refine g_callSip (pc' := 4) (As := [vi b]) (S := []) dX9_fillGlass_1 rfl m_X9_101 w_X9_isStuff (c_X9_isStuff X M b hb) rfl (by decide) (by decide) rfl (Nat.le_of_ble_eq_true rfl) (fun z2 q1 => ?_)
  refine g_if_eq (pc' := 7) (tgt := 14) ⟨by omega, by omega⟩ dX9_fillGlass_4 rfl rfl (fun c3 => ?_) (fun c3 => ?_)
  · replace q1 := q1.resolve_left (fun h => absurd (c3.symm.trans h.1) (by decide))
    refine g_iconst (pc' := 15) dX9_fillGlass_14 rfl ?_
    refine g_ireturn dX9_fillGlass_15 ?_
    exact ⟨hi, Fr.rf, rfl, rfl, rfl, rfl, rfl, rfl, rfl, rfl, rfl, rfl, rfl, rfl, rfl, rfl, rfl, by omega⟩
  · replace q1 := q1.resolve_right (fun h => c3 h.1)
    refine g_iload_n (pc' := 8) 3 dX9_fillGlass_7 rfl rfl ?_
    refine g_callSip (pc' := 11) (As := [vi c]) (S := []) dX9_fillGlass_8 rfl m_X9_82 w_X9_isAmount (c_X9_isAmount X M c hc) rfl (by decide) (by decide) rfl (Nat.le_of_ble_eq_true rfl) (fun z5 q4 => ?_)
    refine g_if_ne (pc' := 14) (tgt := 16) ⟨by omega, by omega⟩ dX9_fillGlass_11 rfl rfl (fun c6 => ?_) (fun c6 => ?_)
    · replace q4 := q4.resolve_right (fun h => c6 h.1)
      refine g_aload_n (pc' := 17) 0 dX9_fillGlass_16 rfl rfl ?_
      refine g_getR (pc' := 20) dX9_fillGlass_17 rfl f_X9_12 rfl rfl ?_
      refine g_getR (pc' := 23) dX9_fillGlass_20 rfl f_X9_86 rfl rfl ?_
      refine g_iload_n (pc' := 24) 1 dX9_fillGlass_23 rfl rfl ?_
      refine g_callVip (pc' := 27) (As := [vi a]) (b := 2) (S := []) dX9_fillGlass_24 rfl m_X9_92 w_X7_has (c_X7_has X M 2 isT_2 (hi.1 _ isT_2) a ha) rfl ⟨_, _, _, rfl, rfl, rfl⟩ (by decide) (by decide) rfl (Nat.le_of_ble_eq_true rfl) (fun z8 q7 => ?_)
      refine g_if_ne (pc' := 30) (tgt := 33) ⟨by omega, by omega⟩ dX9_fillGlass_27 rfl rfl (fun c9 => ?_) (fun c9 => ?_)
      · replace q7 := q7.resolve_right (fun h => c9 h.1)
        refine g_aload_n (pc' := 34) 0 dX9_fillGlass_33 rfl rfl ?_
        refine g_getR (pc' := 37) dX9_fillGlass_34 rfl f_X9_12 rfl rfl ?_
        refine g_getR (pc' := 40) dX9_fillGlass_37 rfl f_X9_86 rfl rfl ?_
        refine g_iload_n (pc' := 41) 1 dX9_fillGlass_40 rfl rfl ?_
        refine g_iload_n (pc' := 42) 2 dX9_fillGlass_41 rfl rfl ?_
        refine g_iload_n (pc' := 43) 3 dX9_fillGlass_42 rfl rfl ?_
        refine g_callVi (pc' := 46) (As := [vi a, vi b, vi c]) (b := 2) (S := []) dX9_fillGlass_43 rfl m_X9_122 w_X7_pour (c_X7_pour X M 2 isT_2 (hi.1 _ isT_2) a ha b hb c hc) rfl ⟨_, _, _, rfl, rfl, rfl⟩ (by decide) (by decide) rfl (Nat.le_of_ble_eq_true rfl) (fun z11 M12 q10 => ?_)
        obtain ⟨kM12, fM120, gM120, pM12⟩ := q10
        have iM12 : IC M12 := IC.ofT hi isT_2 fM120 kM12
        have fM12 : Fr (fun c => 2 ≤ c ∧ c ≤ 6) M M12 := Fr.tr Fr.rf fM120 (fun c z => by unfold inT at z; first | omega | (dsimp only; omega))
        have q2_5_M12 : id (M12 2 5 = M 2 5) := gM120
        have q1_2_M12 : id (M12 1 2 = M 1 2) := (congrFun (fM120 1 (by unfold inT; first | decide | omega)) 2)
        have q1_4_M12 : id (M12 1 4 = M 1 4) := (congrFun (fM120 1 (by unfold inT; first | decide | omega)) 4)
        have q1_6_M12 : id (M12 1 6 = M 1 6) := (congrFun (fM120 1 (by unfold inT; first | decide | omega)) 6)
        have q11_5_M12 : id (M12 11 5 = M 11 5) := (congrFun (fM120 11 (by unfold inT; first | decide | omega)) 5)
        have q10_2_M12 : id (M12 10 2 = M 10 2) := (congrFun (fM120 10 (by unfold inT; first | decide | omega)) 2)
        have q10_4_M12 : id (M12 10 4 = M 10 4) := (congrFun (fM120 10 (by unfold inT; first | decide | omega)) 4)
        have q10_6_M12 : id (M12 10 6 = M 10 6) := (congrFun (fM120 10 (by unfold inT; first | decide | omega)) 6)
        have q20_5_M12 : id (M12 20 5 = M 20 5) := (congrFun (fM120 20 (by unfold inT; first | decide | omega)) 5)
        have q19_2_M12 : id (M12 19 2 = M 19 2) := (congrFun (fM120 19 (by unfold inT; first | decide | omega)) 2)
        have q19_4_M12 : id (M12 19 4 = M 19 4) := (congrFun (fM120 19 (by unfold inT; first | decide | omega)) 4)
        have q19_6_M12 : id (M12 19 6 = M 19 6) := (congrFun (fM120 19 (by unfold inT; first | decide | omega)) 6)
        have q29_0_M12 : id (M12 29 0 = M 29 0) := (congrFun (fM120 29 (by unfold inT; first | decide | omega)) 0)
        have q29_1_M12 : id (M12 29 1 = M 29 1) := (congrFun (fM120 29 (by unfold inT; first | decide | omega)) 1)
        have q31_1_M12 : id (M12 31 1 = M 31 1) := (congrFun (fM120 31 (by unfold inT; first | decide | omega)) 1)
        refine g_istore (pc' := 48) (L' := [(4, vi z11), (0, vr X 0), (1, vi a), (2, vi b), (3, vi c)]) dX9_fillGlass_46 rfl (by decide) rfl ?_
        refine g_iload (pc' := 50) 0 dX9_fillGlass_48 rfl rfl ?_
        refine g_if_ge (pc' := 53) (tgt := 58) ⟨by omega, by omega⟩ dX9_fillGlass_50 rfl rfl (fun c13 => ?_) (fun c13 => ?_)
        · refine g_aload_n (pc' := 59) 1 dX9_fillGlass_58 rfl rfl ?_
          refine g_getR (pc' := 62) dX9_fillGlass_59 rfl f_X9_12 rfl rfl ?_
          refine g_getR (pc' := 65) dX9_fillGlass_62 rfl f_X9_86 rfl rfl ?_
          refine g_iload_n (pc' := 66) 2 dX9_fillGlass_65 rfl rfl ?_
          refine g_callVip (pc' := 69) (As := [vi a]) (b := 2) (S := []) dX9_fillGlass_66 rfl m_X9_98 w_X7_fullOf (c_X7_fullOf X M12 2 isT_2 (iM12.1 _ isT_2) a ha) rfl ⟨_, _, _, rfl, rfl, rfl⟩ (by decide) (by decide) rfl (Nat.le_of_ble_eq_true rfl) (fun z15 q14 => ?_)
          refine g_ireturn dX9_fillGlass_69 ?_
          exact ⟨iM12, fM12, q2_5_M12, q1_2_M12, q1_4_M12, q1_6_M12, q11_5_M12, q10_2_M12, q10_4_M12, q10_6_M12, q20_5_M12, q19_2_M12, q19_4_M12, q19_6_M12, q29_0_M12, q29_1_M12, q31_1_M12, by omega⟩
        · refine g_iload (pc' := 55) 0 dX9_fillGlass_53 rfl rfl ?_
          refine g_goto (tgt := 69) dX9_fillGlass_55 rfl ?_
          refine g_ireturn dX9_fillGlass_69 ?_
          exact ⟨iM12, fM12, q2_5_M12, q1_2_M12, q1_4_M12, q1_6_M12, q11_5_M12, q10_2_M12, q10_4_M12, q10_6_M12, q20_5_M12, q19_2_M12, q19_4_M12, q19_6_M12, q29_0_M12, q29_1_M12, q31_1_M12, by omega⟩
      · replace q7 := q7.resolve_left (fun h => absurd (c9.symm.trans h.1) (by decide))
        refine g_bipush (pc' := 32) (v := (-2)) dX9_fillGlass_30 rfl (by decide) ?_
        refine g_ireturn dX9_fillGlass_32 ?_
        exact ⟨hi, Fr.rf, rfl, rfl, rfl, rfl, rfl, rfl, rfl, rfl, rfl, rfl, rfl, rfl, rfl, rfl, rfl, by omega⟩
    · replace q4 := q4.resolve_left (fun h => absurd (c6.symm.trans h.1) (by decide))
      refine g_iconst (pc' := 15) dX9_fillGlass_14 rfl ?_
      refine g_ireturn dX9_fillGlass_15 ?_
      exact ⟨hi, Fr.rf, rfl, rfl, rfl, rfl, rfl, rfl, rfl, rfl, rfl, rfl, rfl, rfl, rfl, rfl, rfl, by omega⟩
set_option maxHeartbeats 4000000 in
set_option maxRecDepth 100000 in
theorem c_X9_fill (X : Cx) (M : Mm) (hi : IC M) (a : Int) (ha : inI a) (b : Int) (hb : inI b) (c : Int) (hc : inI c) : Con X 4 yX9_fill cX9_fill 4 (some .int) [vr X 0, vi a, vi b, vi c] M (Qi (fun r M1 => IC M1 ∧ Fr (fun c => c ≤ 96) M M1 ∧ M1 2 5 = M 2 5 ∧ M1 1 2 = M 1 2 ∧ M1 1 4 = M 1 4 ∧ M1 1 6 = M 1 6 ∧ M1 11 5 = M 11 5 ∧ M1 10 2 = M 10 2 ∧ M1 10 4 = M 10 4 ∧ M1 10 6 = M 10 6 ∧ M1 20 5 = M 20 5 ∧ M1 19 2 = M 19 2 ∧ M1 19 4 = M 19 4 ∧ M1 19 6 = M 19 6 ∧ M1 29 0 = M 29 0 ∧ M1 29 1 = M 29 1 ∧ M1 31 1 = M 31 1 ∧ (inI r))) := by
  refine Con.ofG rfl (Nat.le_of_ble_eq_true rfl) ?_
  show G X 4 RX9 cX9_fill 4 (some .int) (Qi (fun r M1 => IC M1 ∧ Fr (fun c => c ≤ 96) M M1 ∧ M1 2 5 = M 2 5 ∧ M1 1 2 = M 1 2 ∧ M1 1 4 = M 1 4 ∧ M1 1 6 = M 1 6 ∧ M1 11 5 = M 11 5 ∧ M1 10 2 = M 10 2 ∧ M1 10 4 = M 10 4 ∧ M1 10 6 = M 10 6 ∧ M1 20 5 = M 20 5 ∧ M1 19 2 = M 19 2 ∧ M1 19 4 = M 19 4 ∧ M1 19 6 = M 19 6 ∧ M1 29 0 = M 29 0 ∧ M1 29 1 = M 29 1 ∧ M1 31 1 = M 31 1 ∧ (inI r))) 0 [(0, vr X 0), (1, vi a), (2, vi b), (3, vi c)] [] M
  have hi5 := (hi.1 2 isT_2).2.1
  have hi4 := (hi.1 2 isT_2).1
  have h12 := hi.2.1.1.1
  have h14 := hi.2.1.1.2.1
  have h16 := hi.2.1.1.2.2
  refine g_aload_n (pc' := 1) 0 dX9_fill_0 rfl rfl ?_
  refine g_aload_n (pc' := 2) 0 dX9_fill_1 rfl rfl ?_
  refine g_iload_n (pc' := 3) 1 dX9_fill_2 rfl rfl ?_
  refine g_iload_n (pc' := 4) 2 dX9_fill_3 rfl rfl ?_
  refine g_iload_n (pc' := 5) 3 dX9_fill_4 rfl rfl ?_
  refine g_callVi (pc' := 8) (As := [vi a, vi b, vi c]) (b := 0) (S := [vr X 0]) dX9_fill_5 rfl m_X9_118 w_X9_fillGlass (c_X9_fillGlass X M hi a ha b hb c hc) rfl ⟨_, _, _, rfl, rfl, rfl⟩ (by decide) (by decide) rfl (Nat.le_of_ble_eq_true rfl) (fun z2 M3 q1 => ?_)
  obtain ⟨iM3, fM30, eM3_2_5, eM3_1_2, eM3_1_4, eM3_1_6, eM3_11_5, eM3_10_2, eM3_10_4, eM3_10_6, eM3_20_5, eM3_19_2, eM3_19_4, eM3_19_6, eM3_29_0, eM3_29_1, eM3_31_1, pM3⟩ := q1
  have fM3 : Fr (fun c => c ≤ 96) M M3 := Fr.tr Fr.rf fM30 fi_9
  have q2_5_M3 : id (M3 2 5 = M 2 5) := eM3_2_5
  have q1_2_M3 : id (M3 1 2 = M 1 2) := eM3_1_2
  have q1_4_M3 : id (M3 1 4 = M 1 4) := eM3_1_4
  have q1_6_M3 : id (M3 1 6 = M 1 6) := eM3_1_6
  have q11_5_M3 : id (M3 11 5 = M 11 5) := eM3_11_5
  have q10_2_M3 : id (M3 10 2 = M 10 2) := eM3_10_2
  have q10_4_M3 : id (M3 10 4 = M 10 4) := eM3_10_4
  have q10_6_M3 : id (M3 10 6 = M 10 6) := eM3_10_6
  have q20_5_M3 : id (M3 20 5 = M 20 5) := eM3_20_5
  have q19_2_M3 : id (M3 19 2 = M 19 2) := eM3_19_2
  have q19_4_M3 : id (M3 19 4 = M 19 4) := eM3_19_4
  have q19_6_M3 : id (M3 19 6 = M 19 6) := eM3_19_6
  have q29_0_M3 : id (M3 29 0 = M 29 0) := eM3_29_0
  have q29_1_M3 : id (M3 29 1 = M 29 1) := eM3_29_1
  have q31_1_M3 : id (M3 31 1 = M 31 1) := eM3_31_1
  clear eM3_2_5 eM3_1_2 eM3_1_4 eM3_1_6 eM3_11_5 eM3_10_2 eM3_10_4 eM3_10_6 eM3_20_5 eM3_19_2 eM3_19_4 eM3_19_6 eM3_29_0 eM3_29_1 eM3_31_1
  refine g_callVi (pc' := 11) (As := [vi z2]) (b := 0) (S := []) dX9_fill_8 rfl m_X9_79 w_X9_answered (c_X9_answered X M3 iM3 z2 ⟨by omega, by omega⟩) rfl ⟨_, _, _, rfl, rfl, rfl⟩ (by decide) (by decide) rfl (Nat.le_of_ble_eq_true rfl) (fun z5 M6 q4 => ?_)
  obtain ⟨iM6, fM60, eM6_2_5, eM6_1_2, eM6_1_4, eM6_1_6, eM6_11_5, eM6_10_2, eM6_10_4, eM6_10_6, eM6_20_5, eM6_19_2, eM6_19_4, eM6_19_6, eM6_29_0, eM6_29_1, eM6_31_1, pM6⟩ := q4
  have fM6 : Fr (fun c => c ≤ 96) M M6 := Fr.tr fM3 fM60 fi_10
  have q2_5_M6 : id (M6 2 5 = M 2 5) := eM6_2_5.trans q2_5_M3
  have q1_2_M6 : id (M6 1 2 = M 1 2) := eM6_1_2.trans q1_2_M3
  have q1_4_M6 : id (M6 1 4 = M 1 4) := eM6_1_4.trans q1_4_M3
  have q1_6_M6 : id (M6 1 6 = M 1 6) := eM6_1_6.trans q1_6_M3
  have q11_5_M6 : id (M6 11 5 = M 11 5) := eM6_11_5.trans q11_5_M3
  have q10_2_M6 : id (M6 10 2 = M 10 2) := eM6_10_2.trans q10_2_M3
  have q10_4_M6 : id (M6 10 4 = M 10 4) := eM6_10_4.trans q10_4_M3
  have q10_6_M6 : id (M6 10 6 = M 10 6) := eM6_10_6.trans q10_6_M3
  have q20_5_M6 : id (M6 20 5 = M 20 5) := eM6_20_5.trans q20_5_M3
  have q19_2_M6 : id (M6 19 2 = M 19 2) := eM6_19_2.trans q19_2_M3
  have q19_4_M6 : id (M6 19 4 = M 19 4) := eM6_19_4.trans q19_4_M3
  have q19_6_M6 : id (M6 19 6 = M 19 6) := eM6_19_6.trans q19_6_M3
  have q29_0_M6 : id (M6 29 0 = M 29 0) := eM6_29_0.trans q29_0_M3
  have q29_1_M6 : id (M6 29 1 = M 29 1) := eM6_29_1.trans q29_1_M3
  have q31_1_M6 : id (M6 31 1 = M 31 1) := eM6_31_1.trans q31_1_M3
  clear eM6_2_5 eM6_1_2 eM6_1_4 eM6_1_6 eM6_11_5 eM6_10_2 eM6_10_4 eM6_10_6 eM6_20_5 eM6_19_2 eM6_19_4 eM6_19_6 eM6_29_0 eM6_29_1 eM6_31_1
  refine g_ireturn dX9_fill_11 ?_
  exact ⟨iM6, fM6, q2_5_M6, q1_2_M6, q1_4_M6, q1_6_M6, q11_5_M6, q10_2_M6, q10_4_M6, q10_6_M6, q20_5_M6, q19_2_M6, q19_4_M6, q19_6_M6, q29_0_M6, q29_1_M6, q31_1_M6, by omega⟩
set_option maxHeartbeats 4000000 in
set_option maxRecDepth 100000 in
theorem c_X9_spoonGlass (X : Cx) (M : Mm) (hi : IC M) (a : Int) (ha : inI a) (b : Int) (hb : inI b) (c : Int) (hc : inI c) : Con X 4 yX9_spoonGlass cX9_spoonGlass 5 (some .int) [vr X 0, vi a, vi b, vi c] M (Qi (fun r M1 => IC M1 ∧ Fr (fun c => 2 ≤ c ∧ c ≤ 6) M M1 ∧ M1 2 5 = M 2 5 ∧ M1 1 2 = M 1 2 ∧ M1 1 4 = M 1 4 ∧ M1 1 6 = M 1 6 ∧ M1 11 5 = M 11 5 ∧ M1 10 2 = M 10 2 ∧ M1 10 4 = M 10 4 ∧ M1 10 6 = M 10 6 ∧ M1 20 5 = M 20 5 ∧ M1 19 2 = M 19 2 ∧ M1 19 4 = M 19 4 ∧ M1 19 6 = M 19 6 ∧ M1 29 0 = M 29 0 ∧ M1 29 1 = M 29 1 ∧ M1 31 1 = M 31 1 ∧ (inI r))) := by
  refine Con.ofG rfl (Nat.le_of_ble_eq_true rfl) ?_
  show G X 4 RX9 cX9_spoonGlass 5 (some .int) (Qi (fun r M1 => IC M1 ∧ Fr (fun c => 2 ≤ c ∧ c ≤ 6) M M1 ∧ M1 2 5 = M 2 5 ∧ M1 1 2 = M 1 2 ∧ M1 1 4 = M 1 4 ∧ M1 1 6 = M 1 6 ∧ M1 11 5 = M 11 5 ∧ M1 10 2 = M 10 2 ∧ M1 10 4 = M 10 4 ∧ M1 10 6 = M 10 6 ∧ M1 20 5 = M 20 5 ∧ M1 19 2 = M 19 2 ∧ M1 19 4 = M 19 4 ∧ M1 19 6 = M 19 6 ∧ M1 29 0 = M 29 0 ∧ M1 29 1 = M 29 1 ∧ M1 31 1 = M 31 1 ∧ (inI r))) 0 [(0, vr X 0), (1, vi a), (2, vi b), (3, vi c)] [] M
  refine g_iload_n (pc' := 1) 3 dX9_spoonGlass_0 rfl rfl ?_
  refine g_callSip (pc' := 4) (As := [vi c]) (S := []) dX9_spoonGlass_1 rfl m_X9_82 w_X9_isAmount (c_X9_isAmount X M c hc) rfl (by decide) (by decide) rfl (Nat.le_of_ble_eq_true rfl) (fun z2 q1 => ?_)
  refine g_if_ne (pc' := 7) (tgt := 9) ⟨by omega, by omega⟩ dX9_spoonGlass_4 rfl rfl (fun c3 => ?_) (fun c3 => ?_)
  · replace q1 := q1.resolve_right (fun h => c3 h.1)
    refine g_aload_n (pc' := 10) 0 dX9_spoonGlass_9 rfl rfl ?_
    refine g_getR (pc' := 13) dX9_spoonGlass_10 rfl f_X9_12 rfl rfl ?_
    refine g_getR (pc' := 16) dX9_spoonGlass_13 rfl f_X9_86 rfl rfl ?_
    refine g_iload_n (pc' := 17) 1 dX9_spoonGlass_16 rfl rfl ?_
    refine g_callVip (pc' := 20) (As := [vi a]) (b := 2) (S := []) dX9_spoonGlass_17 rfl m_X9_92 w_X7_has (c_X7_has X M 2 isT_2 (hi.1 _ isT_2) a ha) rfl ⟨_, _, _, rfl, rfl, rfl⟩ (by decide) (by decide) rfl (Nat.le_of_ble_eq_true rfl) (fun z5 q4 => ?_)
    refine g_if_eq (pc' := 23) (tgt := 37) ⟨by omega, by omega⟩ dX9_spoonGlass_20 rfl rfl (fun c6 => ?_) (fun c6 => ?_)
    · replace q4 := q4.resolve_left (fun h => absurd (c6.symm.trans h.1) (by decide))
      refine g_bipush (pc' := 39) (v := (-2)) dX9_spoonGlass_37 rfl (by decide) ?_
      refine g_ireturn dX9_spoonGlass_39 ?_
      exact ⟨hi, Fr.rf, rfl, rfl, rfl, rfl, rfl, rfl, rfl, rfl, rfl, rfl, rfl, rfl, rfl, rfl, rfl, by omega⟩
    · replace q4 := q4.resolve_right (fun h => c6 h.1)
      refine g_aload_n (pc' := 24) 0 dX9_spoonGlass_23 rfl rfl ?_
      refine g_getR (pc' := 27) dX9_spoonGlass_24 rfl f_X9_12 rfl rfl ?_
      refine g_getR (pc' := 30) dX9_spoonGlass_27 rfl f_X9_86 rfl rfl ?_
      refine g_iload_n (pc' := 31) 2 dX9_spoonGlass_30 rfl rfl ?_
      refine g_callVip (pc' := 34) (As := [vi b]) (b := 2) (S := []) dX9_spoonGlass_31 rfl m_X9_92 w_X7_has (c_X7_has X M 2 isT_2 (hi.1 _ isT_2) b hb) rfl ⟨_, _, _, rfl, rfl, rfl⟩ (by decide) (by decide) rfl (Nat.le_of_ble_eq_true rfl) (fun z8 q7 => ?_)
      refine g_if_ne (pc' := 37) (tgt := 40) ⟨by omega, by omega⟩ dX9_spoonGlass_34 rfl rfl (fun c9 => ?_) (fun c9 => ?_)
      · replace q7 := q7.resolve_right (fun h => c9 h.1)
        refine g_aload_n (pc' := 41) 0 dX9_spoonGlass_40 rfl rfl ?_
        refine g_getR (pc' := 44) dX9_spoonGlass_41 rfl f_X9_12 rfl rfl ?_
        refine g_getR (pc' := 47) dX9_spoonGlass_44 rfl f_X9_86 rfl rfl ?_
        refine g_iload_n (pc' := 48) 1 dX9_spoonGlass_47 rfl rfl ?_
        refine g_iload_n (pc' := 49) 2 dX9_spoonGlass_48 rfl rfl ?_
        refine g_iload_n (pc' := 50) 3 dX9_spoonGlass_49 rfl rfl ?_
        refine g_callVi (pc' := 53) (As := [vi a, vi b, vi c]) (b := 2) (S := []) dX9_spoonGlass_50 rfl m_X9_128 w_X7_carry (c_X7_carry X M 2 isT_2 (hi.1 _ isT_2) a ha b hb c hc) rfl ⟨_, _, _, rfl, rfl, rfl⟩ (by decide) (by decide) rfl (Nat.le_of_ble_eq_true rfl) (fun z11 M12 q10 => ?_)
        obtain ⟨kM12, fM120, gM120, pM12⟩ := q10
        have iM12 : IC M12 := IC.ofT hi isT_2 fM120 kM12
        have fM12 : Fr (fun c => 2 ≤ c ∧ c ≤ 6) M M12 := Fr.tr Fr.rf fM120 (fun c z => by unfold inT at z; first | omega | (dsimp only; omega))
        have q2_5_M12 : id (M12 2 5 = M 2 5) := gM120
        have q1_2_M12 : id (M12 1 2 = M 1 2) := (congrFun (fM120 1 (by unfold inT; first | decide | omega)) 2)
        have q1_4_M12 : id (M12 1 4 = M 1 4) := (congrFun (fM120 1 (by unfold inT; first | decide | omega)) 4)
        have q1_6_M12 : id (M12 1 6 = M 1 6) := (congrFun (fM120 1 (by unfold inT; first | decide | omega)) 6)
        have q11_5_M12 : id (M12 11 5 = M 11 5) := (congrFun (fM120 11 (by unfold inT; first | decide | omega)) 5)
        have q10_2_M12 : id (M12 10 2 = M 10 2) := (congrFun (fM120 10 (by unfold inT; first | decide | omega)) 2)
        have q10_4_M12 : id (M12 10 4 = M 10 4) := (congrFun (fM120 10 (by unfold inT; first | decide | omega)) 4)
        have q10_6_M12 : id (M12 10 6 = M 10 6) := (congrFun (fM120 10 (by unfold inT; first | decide | omega)) 6)
        have q20_5_M12 : id (M12 20 5 = M 20 5) := (congrFun (fM120 20 (by unfold inT; first | decide | omega)) 5)
        have q19_2_M12 : id (M12 19 2 = M 19 2) := (congrFun (fM120 19 (by unfold inT; first | decide | omega)) 2)
        have q19_4_M12 : id (M12 19 4 = M 19 4) := (congrFun (fM120 19 (by unfold inT; first | decide | omega)) 4)
        have q19_6_M12 : id (M12 19 6 = M 19 6) := (congrFun (fM120 19 (by unfold inT; first | decide | omega)) 6)
        have q29_0_M12 : id (M12 29 0 = M 29 0) := (congrFun (fM120 29 (by unfold inT; first | decide | omega)) 0)
        have q29_1_M12 : id (M12 29 1 = M 29 1) := (congrFun (fM120 29 (by unfold inT; first | decide | omega)) 1)
        have q31_1_M12 : id (M12 31 1 = M 31 1) := (congrFun (fM120 31 (by unfold inT; first | decide | omega)) 1)
        refine g_istore (pc' := 55) (L' := [(4, vi z11), (0, vr X 0), (1, vi a), (2, vi b), (3, vi c)]) dX9_spoonGlass_53 rfl (by decide) rfl ?_
        refine g_iload (pc' := 57) 0 dX9_spoonGlass_55 rfl rfl ?_
        refine g_if_ge (pc' := 60) (tgt := 63) ⟨by omega, by omega⟩ dX9_spoonGlass_57 rfl rfl (fun c13 => ?_) (fun c13 => ?_)
        · refine g_aload_n (pc' := 64) 1 dX9_spoonGlass_63 rfl rfl ?_
          refine g_getR (pc' := 67) dX9_spoonGlass_64 rfl f_X9_12 rfl rfl ?_
          refine g_getR (pc' := 70) dX9_spoonGlass_67 rfl f_X9_86 rfl rfl ?_
          refine g_callVv (pc' := 73) (As := []) (b := 2) (S := []) dX9_spoonGlass_70 rfl m_X9_131 w_X7_toLowestTerms (c_X7_toLowestTerms X M12 2 isT_2 (iM12.1 _ isT_2)) rfl ⟨_, _, _, rfl, rfl, rfl⟩ (by decide) (by decide) rfl (Nat.le_of_ble_eq_true rfl) (fun M15 q14 => ?_)
          obtain ⟨kM15, fM150, gM150⟩ := q14
          have iM15 : IC M15 := IC.ofT iM12 isT_2 fM150 kM15
          have fM15 : Fr (fun c => 2 ≤ c ∧ c ≤ 6) M M15 := Fr.tr fM12 fM150 (fun c z => by unfold inT at z; first | omega | (dsimp only; omega))
          have q2_5_M15 : id (M15 2 5 = M 2 5) := gM150.trans q2_5_M12
          have q1_2_M15 : id (M15 1 2 = M 1 2) := (congrFun (fM150 1 (by unfold inT; first | decide | omega)) 2).trans q1_2_M12
          have q1_4_M15 : id (M15 1 4 = M 1 4) := (congrFun (fM150 1 (by unfold inT; first | decide | omega)) 4).trans q1_4_M12
          have q1_6_M15 : id (M15 1 6 = M 1 6) := (congrFun (fM150 1 (by unfold inT; first | decide | omega)) 6).trans q1_6_M12
          have q11_5_M15 : id (M15 11 5 = M 11 5) := (congrFun (fM150 11 (by unfold inT; first | decide | omega)) 5).trans q11_5_M12
          have q10_2_M15 : id (M15 10 2 = M 10 2) := (congrFun (fM150 10 (by unfold inT; first | decide | omega)) 2).trans q10_2_M12
          have q10_4_M15 : id (M15 10 4 = M 10 4) := (congrFun (fM150 10 (by unfold inT; first | decide | omega)) 4).trans q10_4_M12
          have q10_6_M15 : id (M15 10 6 = M 10 6) := (congrFun (fM150 10 (by unfold inT; first | decide | omega)) 6).trans q10_6_M12
          have q20_5_M15 : id (M15 20 5 = M 20 5) := (congrFun (fM150 20 (by unfold inT; first | decide | omega)) 5).trans q20_5_M12
          have q19_2_M15 : id (M15 19 2 = M 19 2) := (congrFun (fM150 19 (by unfold inT; first | decide | omega)) 2).trans q19_2_M12
          have q19_4_M15 : id (M15 19 4 = M 19 4) := (congrFun (fM150 19 (by unfold inT; first | decide | omega)) 4).trans q19_4_M12
          have q19_6_M15 : id (M15 19 6 = M 19 6) := (congrFun (fM150 19 (by unfold inT; first | decide | omega)) 6).trans q19_6_M12
          have q29_0_M15 : id (M15 29 0 = M 29 0) := (congrFun (fM150 29 (by unfold inT; first | decide | omega)) 0).trans q29_0_M12
          have q29_1_M15 : id (M15 29 1 = M 29 1) := (congrFun (fM150 29 (by unfold inT; first | decide | omega)) 1).trans q29_1_M12
          have q31_1_M15 : id (M15 31 1 = M 31 1) := (congrFun (fM150 31 (by unfold inT; first | decide | omega)) 1).trans q31_1_M12
          refine g_aload_n (pc' := 74) 1 dX9_spoonGlass_73 rfl rfl ?_
          refine g_getR (pc' := 77) dX9_spoonGlass_74 rfl f_X9_12 rfl rfl ?_
          refine g_getR (pc' := 80) dX9_spoonGlass_77 rfl f_X9_86 rfl rfl ?_
          refine g_iload_n (pc' := 81) 3 dX9_spoonGlass_80 rfl rfl ?_
          refine g_callVip (pc' := 84) (As := [vi b]) (b := 2) (S := []) dX9_spoonGlass_81 rfl m_X9_98 w_X7_fullOf (c_X7_fullOf X M15 2 isT_2 (iM15.1 _ isT_2) b hb) rfl ⟨_, _, _, rfl, rfl, rfl⟩ (by decide) (by decide) rfl (Nat.le_of_ble_eq_true rfl) (fun z17 q16 => ?_)
          refine g_ireturn dX9_spoonGlass_84 ?_
          exact ⟨iM15, fM15, q2_5_M15, q1_2_M15, q1_4_M15, q1_6_M15, q11_5_M15, q10_2_M15, q10_4_M15, q10_6_M15, q20_5_M15, q19_2_M15, q19_4_M15, q19_6_M15, q29_0_M15, q29_1_M15, q31_1_M15, by omega⟩
        · refine g_iload (pc' := 62) 0 dX9_spoonGlass_60 rfl rfl ?_
          refine g_ireturn dX9_spoonGlass_62 ?_
          exact ⟨iM12, fM12, q2_5_M12, q1_2_M12, q1_4_M12, q1_6_M12, q11_5_M12, q10_2_M12, q10_4_M12, q10_6_M12, q20_5_M12, q19_2_M12, q19_4_M12, q19_6_M12, q29_0_M12, q29_1_M12, q31_1_M12, by omega⟩
      · replace q7 := q7.resolve_left (fun h => absurd (c9.symm.trans h.1) (by decide))
        refine g_bipush (pc' := 39) (v := (-2)) dX9_spoonGlass_37 rfl (by decide) ?_
        refine g_ireturn dX9_spoonGlass_39 ?_
        exact ⟨hi, Fr.rf, rfl, rfl, rfl, rfl, rfl, rfl, rfl, rfl, rfl, rfl, rfl, rfl, rfl, rfl, rfl, by omega⟩
  · replace q1 := q1.resolve_left (fun h => absurd (c3.symm.trans h.1) (by decide))
    refine g_iconst (pc' := 8) dX9_spoonGlass_7 rfl ?_
    refine g_ireturn dX9_spoonGlass_8 ?_
    exact ⟨hi, Fr.rf, rfl, rfl, rfl, rfl, rfl, rfl, rfl, rfl, rfl, rfl, rfl, rfl, rfl, rfl, rfl, by omega⟩
set_option maxHeartbeats 4000000 in
set_option maxRecDepth 100000 in
theorem c_X9_spoon (X : Cx) (M : Mm) (hi : IC M) (a : Int) (ha : inI a) (b : Int) (hb : inI b) (c : Int) (hc : inI c) : Con X 5 yX9_spoon cX9_spoon 4 (some .int) [vr X 0, vi a, vi b, vi c] M (Qi (fun r M1 => IC M1 ∧ Fr (fun c => c ≤ 96) M M1 ∧ M1 2 5 = M 2 5 ∧ M1 1 2 = M 1 2 ∧ M1 1 4 = M 1 4 ∧ M1 1 6 = M 1 6 ∧ M1 11 5 = M 11 5 ∧ M1 10 2 = M 10 2 ∧ M1 10 4 = M 10 4 ∧ M1 10 6 = M 10 6 ∧ M1 20 5 = M 20 5 ∧ M1 19 2 = M 19 2 ∧ M1 19 4 = M 19 4 ∧ M1 19 6 = M 19 6 ∧ M1 29 0 = M 29 0 ∧ M1 29 1 = M 29 1 ∧ M1 31 1 = M 31 1 ∧ (inI r))) := by
  refine Con.ofG rfl (Nat.le_of_ble_eq_true rfl) ?_
  show G X 5 RX9 cX9_spoon 4 (some .int) (Qi (fun r M1 => IC M1 ∧ Fr (fun c => c ≤ 96) M M1 ∧ M1 2 5 = M 2 5 ∧ M1 1 2 = M 1 2 ∧ M1 1 4 = M 1 4 ∧ M1 1 6 = M 1 6 ∧ M1 11 5 = M 11 5 ∧ M1 10 2 = M 10 2 ∧ M1 10 4 = M 10 4 ∧ M1 10 6 = M 10 6 ∧ M1 20 5 = M 20 5 ∧ M1 19 2 = M 19 2 ∧ M1 19 4 = M 19 4 ∧ M1 19 6 = M 19 6 ∧ M1 29 0 = M 29 0 ∧ M1 29 1 = M 29 1 ∧ M1 31 1 = M 31 1 ∧ (inI r))) 0 [(0, vr X 0), (1, vi a), (2, vi b), (3, vi c)] [] M
  have hi5 := (hi.1 2 isT_2).2.1
  have hi4 := (hi.1 2 isT_2).1
  have h12 := hi.2.1.1.1
  have h14 := hi.2.1.1.2.1
  have h16 := hi.2.1.1.2.2
  refine g_aload_n (pc' := 1) 0 dX9_spoon_0 rfl rfl ?_
  refine g_aload_n (pc' := 2) 0 dX9_spoon_1 rfl rfl ?_
  refine g_iload_n (pc' := 3) 1 dX9_spoon_2 rfl rfl ?_
  refine g_iload_n (pc' := 4) 2 dX9_spoon_3 rfl rfl ?_
  refine g_iload_n (pc' := 5) 3 dX9_spoon_4 rfl rfl ?_
  refine g_callVi (pc' := 8) (As := [vi a, vi b, vi c]) (b := 0) (S := [vr X 0]) dX9_spoon_5 rfl m_X9_125 w_X9_spoonGlass (c_X9_spoonGlass X M hi a ha b hb c hc) rfl ⟨_, _, _, rfl, rfl, rfl⟩ (by decide) (by decide) rfl (Nat.le_of_ble_eq_true rfl) (fun z2 M3 q1 => ?_)
  obtain ⟨iM3, fM30, eM3_2_5, eM3_1_2, eM3_1_4, eM3_1_6, eM3_11_5, eM3_10_2, eM3_10_4, eM3_10_6, eM3_20_5, eM3_19_2, eM3_19_4, eM3_19_6, eM3_29_0, eM3_29_1, eM3_31_1, pM3⟩ := q1
  have fM3 : Fr (fun c => c ≤ 96) M M3 := Fr.tr Fr.rf fM30 fi_9
  have q2_5_M3 : id (M3 2 5 = M 2 5) := eM3_2_5
  have q1_2_M3 : id (M3 1 2 = M 1 2) := eM3_1_2
  have q1_4_M3 : id (M3 1 4 = M 1 4) := eM3_1_4
  have q1_6_M3 : id (M3 1 6 = M 1 6) := eM3_1_6
  have q11_5_M3 : id (M3 11 5 = M 11 5) := eM3_11_5
  have q10_2_M3 : id (M3 10 2 = M 10 2) := eM3_10_2
  have q10_4_M3 : id (M3 10 4 = M 10 4) := eM3_10_4
  have q10_6_M3 : id (M3 10 6 = M 10 6) := eM3_10_6
  have q20_5_M3 : id (M3 20 5 = M 20 5) := eM3_20_5
  have q19_2_M3 : id (M3 19 2 = M 19 2) := eM3_19_2
  have q19_4_M3 : id (M3 19 4 = M 19 4) := eM3_19_4
  have q19_6_M3 : id (M3 19 6 = M 19 6) := eM3_19_6
  have q29_0_M3 : id (M3 29 0 = M 29 0) := eM3_29_0
  have q29_1_M3 : id (M3 29 1 = M 29 1) := eM3_29_1
  have q31_1_M3 : id (M3 31 1 = M 31 1) := eM3_31_1
  clear eM3_2_5 eM3_1_2 eM3_1_4 eM3_1_6 eM3_11_5 eM3_10_2 eM3_10_4 eM3_10_6 eM3_20_5 eM3_19_2 eM3_19_4 eM3_19_6 eM3_29_0 eM3_29_1 eM3_31_1
  refine g_callVi (pc' := 11) (As := [vi z2]) (b := 0) (S := []) dX9_spoon_8 rfl m_X9_79 w_X9_answered (c_X9_answered X M3 iM3 z2 ⟨by omega, by omega⟩) rfl ⟨_, _, _, rfl, rfl, rfl⟩ (by decide) (by decide) rfl (Nat.le_of_ble_eq_true rfl) (fun z5 M6 q4 => ?_)
  obtain ⟨iM6, fM60, eM6_2_5, eM6_1_2, eM6_1_4, eM6_1_6, eM6_11_5, eM6_10_2, eM6_10_4, eM6_10_6, eM6_20_5, eM6_19_2, eM6_19_4, eM6_19_6, eM6_29_0, eM6_29_1, eM6_31_1, pM6⟩ := q4
  have fM6 : Fr (fun c => c ≤ 96) M M6 := Fr.tr fM3 fM60 fi_10
  have q2_5_M6 : id (M6 2 5 = M 2 5) := eM6_2_5.trans q2_5_M3
  have q1_2_M6 : id (M6 1 2 = M 1 2) := eM6_1_2.trans q1_2_M3
  have q1_4_M6 : id (M6 1 4 = M 1 4) := eM6_1_4.trans q1_4_M3
  have q1_6_M6 : id (M6 1 6 = M 1 6) := eM6_1_6.trans q1_6_M3
  have q11_5_M6 : id (M6 11 5 = M 11 5) := eM6_11_5.trans q11_5_M3
  have q10_2_M6 : id (M6 10 2 = M 10 2) := eM6_10_2.trans q10_2_M3
  have q10_4_M6 : id (M6 10 4 = M 10 4) := eM6_10_4.trans q10_4_M3
  have q10_6_M6 : id (M6 10 6 = M 10 6) := eM6_10_6.trans q10_6_M3
  have q20_5_M6 : id (M6 20 5 = M 20 5) := eM6_20_5.trans q20_5_M3
  have q19_2_M6 : id (M6 19 2 = M 19 2) := eM6_19_2.trans q19_2_M3
  have q19_4_M6 : id (M6 19 4 = M 19 4) := eM6_19_4.trans q19_4_M3
  have q19_6_M6 : id (M6 19 6 = M 19 6) := eM6_19_6.trans q19_6_M3
  have q29_0_M6 : id (M6 29 0 = M 29 0) := eM6_29_0.trans q29_0_M3
  have q29_1_M6 : id (M6 29 1 = M 29 1) := eM6_29_1.trans q29_1_M3
  have q31_1_M6 : id (M6 31 1 = M 31 1) := eM6_31_1.trans q31_1_M3
  clear eM6_2_5 eM6_1_2 eM6_1_4 eM6_1_6 eM6_11_5 eM6_10_2 eM6_10_4 eM6_10_6 eM6_20_5 eM6_19_2 eM6_19_4 eM6_19_6 eM6_29_0 eM6_29_1 eM6_31_1
  refine g_ireturn dX9_spoon_11 ?_
  exact ⟨iM6, fM6, q2_5_M6, q1_2_M6, q1_4_M6, q1_6_M6, q11_5_M6, q10_2_M6, q10_4_M6, q10_6_M6, q20_5_M6, q19_2_M6, q19_4_M6, q19_6_M6, q29_0_M6, q29_1_M6, q31_1_M6, by omega⟩
set_option maxHeartbeats 4000000 in
set_option maxRecDepth 100000 in
theorem c_X9_lickGlass (X : Cx) (M : Mm) (hi : IC M) (a : Int) (ha : inI a) (b : Int) (hb : inI b) : Con X 4 yX9_lickGlass cX9_lickGlass 4 (some .int) [vr X 0, vi a, vi b] M (Qi (fun r M1 => IC M1 ∧ Fr (fun c => 2 ≤ c ∧ c ≤ 6) M M1 ∧ M1 2 5 = M 2 5 ∧ M1 1 2 = M 1 2 ∧ M1 1 4 = M 1 4 ∧ M1 1 6 = M 1 6 ∧ M1 11 5 = M 11 5 ∧ M1 10 2 = M 10 2 ∧ M1 10 4 = M 10 4 ∧ M1 10 6 = M 10 6 ∧ M1 20 5 = M 20 5 ∧ M1 19 2 = M 19 2 ∧ M1 19 4 = M 19 4 ∧ M1 19 6 = M 19 6 ∧ M1 29 0 = M 29 0 ∧ M1 29 1 = M 29 1 ∧ M1 31 1 = M 31 1 ∧ (inI r))) := by
  refine Con.ofG rfl (Nat.le_of_ble_eq_true rfl) ?_
  show G X 4 RX9 cX9_lickGlass 4 (some .int) (Qi (fun r M1 => IC M1 ∧ Fr (fun c => 2 ≤ c ∧ c ≤ 6) M M1 ∧ M1 2 5 = M 2 5 ∧ M1 1 2 = M 1 2 ∧ M1 1 4 = M 1 4 ∧ M1 1 6 = M 1 6 ∧ M1 11 5 = M 11 5 ∧ M1 10 2 = M 10 2 ∧ M1 10 4 = M 10 4 ∧ M1 10 6 = M 10 6 ∧ M1 20 5 = M 20 5 ∧ M1 19 2 = M 19 2 ∧ M1 19 4 = M 19 4 ∧ M1 19 6 = M 19 6 ∧ M1 29 0 = M 29 0 ∧ M1 29 1 = M 29 1 ∧ M1 31 1 = M 31 1 ∧ (inI r))) 0 [(0, vr X 0), (1, vi a), (2, vi b)] [] M
  refine g_iload_n (pc' := 1) 2 dX9_lickGlass_0 rfl rfl ?_
  refine g_callSip (pc' := 4) (As := [vi b]) (S := []) dX9_lickGlass_1 rfl m_X9_82 w_X9_isAmount (c_X9_isAmount X M b hb) rfl (by decide) (by decide) rfl (Nat.le_of_ble_eq_true rfl) (fun z2 q1 => ?_)
  refine g_if_ne (pc' := 7) (tgt := 9) ⟨by omega, by omega⟩ dX9_lickGlass_4 rfl rfl (fun c3 => ?_) (fun c3 => ?_)
  · replace q1 := q1.resolve_right (fun h => c3 h.1)
    refine g_aload_n (pc' := 10) 0 dX9_lickGlass_9 rfl rfl ?_
    refine g_getR (pc' := 13) dX9_lickGlass_10 rfl f_X9_12 rfl rfl ?_
    refine g_getR (pc' := 16) dX9_lickGlass_13 rfl f_X9_86 rfl rfl ?_
    refine g_iload_n (pc' := 17) 1 dX9_lickGlass_16 rfl rfl ?_
    refine g_callVip (pc' := 20) (As := [vi a]) (b := 2) (S := []) dX9_lickGlass_17 rfl m_X9_92 w_X7_has (c_X7_has X M 2 isT_2 (hi.1 _ isT_2) a ha) rfl ⟨_, _, _, rfl, rfl, rfl⟩ (by decide) (by decide) rfl (Nat.le_of_ble_eq_true rfl) (fun z5 q4 => ?_)
    refine g_if_ne (pc' := 23) (tgt := 26) ⟨by omega, by omega⟩ dX9_lickGlass_20 rfl rfl (fun c6 => ?_) (fun c6 => ?_)
    · replace q4 := q4.resolve_right (fun h => c6 h.1)
      refine g_aload_n (pc' := 27) 0 dX9_lickGlass_26 rfl rfl ?_
      refine g_getR (pc' := 30) dX9_lickGlass_27 rfl f_X9_12 rfl rfl ?_
      refine g_getR (pc' := 33) dX9_lickGlass_30 rfl f_X9_86 rfl rfl ?_
      refine g_iload_n (pc' := 34) 1 dX9_lickGlass_33 rfl rfl ?_
      refine g_iload_n (pc' := 35) 2 dX9_lickGlass_34 rfl rfl ?_
      refine g_callVi (pc' := 38) (As := [vi a, vi b]) (b := 2) (S := []) dX9_lickGlass_35 rfl m_X9_137 w_X7_takeOut (c_X7_takeOut X M 2 isT_2 (hi.1 _ isT_2) a ha b hb) rfl ⟨_, _, _, rfl, rfl, rfl⟩ (by decide) (by decide) rfl (Nat.le_of_ble_eq_true rfl) (fun z8 M9 q7 => ?_)
      obtain ⟨kM9, fM90, gM90, pM9⟩ := q7
      have iM9 : IC M9 := IC.ofT hi isT_2 fM90 kM9
      have fM9 : Fr (fun c => 2 ≤ c ∧ c ≤ 6) M M9 := Fr.tr Fr.rf fM90 (fun c z => by unfold inT at z; first | omega | (dsimp only; omega))
      have q2_5_M9 : id (M9 2 5 = M 2 5) := gM90
      have q1_2_M9 : id (M9 1 2 = M 1 2) := (congrFun (fM90 1 (by unfold inT; first | decide | omega)) 2)
      have q1_4_M9 : id (M9 1 4 = M 1 4) := (congrFun (fM90 1 (by unfold inT; first | decide | omega)) 4)
      have q1_6_M9 : id (M9 1 6 = M 1 6) := (congrFun (fM90 1 (by unfold inT; first | decide | omega)) 6)
      have q11_5_M9 : id (M9 11 5 = M 11 5) := (congrFun (fM90 11 (by unfold inT; first | decide | omega)) 5)
      have q10_2_M9 : id (M9 10 2 = M 10 2) := (congrFun (fM90 10 (by unfold inT; first | decide | omega)) 2)
      have q10_4_M9 : id (M9 10 4 = M 10 4) := (congrFun (fM90 10 (by unfold inT; first | decide | omega)) 4)
      have q10_6_M9 : id (M9 10 6 = M 10 6) := (congrFun (fM90 10 (by unfold inT; first | decide | omega)) 6)
      have q20_5_M9 : id (M9 20 5 = M 20 5) := (congrFun (fM90 20 (by unfold inT; first | decide | omega)) 5)
      have q19_2_M9 : id (M9 19 2 = M 19 2) := (congrFun (fM90 19 (by unfold inT; first | decide | omega)) 2)
      have q19_4_M9 : id (M9 19 4 = M 19 4) := (congrFun (fM90 19 (by unfold inT; first | decide | omega)) 4)
      have q19_6_M9 : id (M9 19 6 = M 19 6) := (congrFun (fM90 19 (by unfold inT; first | decide | omega)) 6)
      have q29_0_M9 : id (M9 29 0 = M 29 0) := (congrFun (fM90 29 (by unfold inT; first | decide | omega)) 0)
      have q29_1_M9 : id (M9 29 1 = M 29 1) := (congrFun (fM90 29 (by unfold inT; first | decide | omega)) 1)
      have q31_1_M9 : id (M9 31 1 = M 31 1) := (congrFun (fM90 31 (by unfold inT; first | decide | omega)) 1)
      refine g_istore_n (pc' := 39) (i := 3) (L' := [(3, vi z8), (0, vr X 0), (1, vi a), (2, vi b)]) dX9_lickGlass_38 rfl rfl (by decide) rfl ?_
      refine g_iload_n (pc' := 40) 0 dX9_lickGlass_39 rfl rfl ?_
      refine g_if_ge (pc' := 43) (tgt := 45) ⟨by omega, by omega⟩ dX9_lickGlass_40 rfl rfl (fun c10 => ?_) (fun c10 => ?_)
      · refine g_aload_n (pc' := 46) 1 dX9_lickGlass_45 rfl rfl ?_
        refine g_getR (pc' := 49) dX9_lickGlass_46 rfl f_X9_12 rfl rfl ?_
        refine g_getR (pc' := 52) dX9_lickGlass_49 rfl f_X9_86 rfl rfl ?_
        refine g_callVv (pc' := 55) (As := []) (b := 2) (S := []) dX9_lickGlass_52 rfl m_X9_131 w_X7_toLowestTerms (c_X7_toLowestTerms X M9 2 isT_2 (iM9.1 _ isT_2)) rfl ⟨_, _, _, rfl, rfl, rfl⟩ (by decide) (by decide) rfl (Nat.le_of_ble_eq_true rfl) (fun M12 q11 => ?_)
        obtain ⟨kM12, fM120, gM120⟩ := q11
        have iM12 : IC M12 := IC.ofT iM9 isT_2 fM120 kM12
        have fM12 : Fr (fun c => 2 ≤ c ∧ c ≤ 6) M M12 := Fr.tr fM9 fM120 (fun c z => by unfold inT at z; first | omega | (dsimp only; omega))
        have q2_5_M12 : id (M12 2 5 = M 2 5) := gM120.trans q2_5_M9
        have q1_2_M12 : id (M12 1 2 = M 1 2) := (congrFun (fM120 1 (by unfold inT; first | decide | omega)) 2).trans q1_2_M9
        have q1_4_M12 : id (M12 1 4 = M 1 4) := (congrFun (fM120 1 (by unfold inT; first | decide | omega)) 4).trans q1_4_M9
        have q1_6_M12 : id (M12 1 6 = M 1 6) := (congrFun (fM120 1 (by unfold inT; first | decide | omega)) 6).trans q1_6_M9
        have q11_5_M12 : id (M12 11 5 = M 11 5) := (congrFun (fM120 11 (by unfold inT; first | decide | omega)) 5).trans q11_5_M9
        have q10_2_M12 : id (M12 10 2 = M 10 2) := (congrFun (fM120 10 (by unfold inT; first | decide | omega)) 2).trans q10_2_M9
        have q10_4_M12 : id (M12 10 4 = M 10 4) := (congrFun (fM120 10 (by unfold inT; first | decide | omega)) 4).trans q10_4_M9
        have q10_6_M12 : id (M12 10 6 = M 10 6) := (congrFun (fM120 10 (by unfold inT; first | decide | omega)) 6).trans q10_6_M9
        have q20_5_M12 : id (M12 20 5 = M 20 5) := (congrFun (fM120 20 (by unfold inT; first | decide | omega)) 5).trans q20_5_M9
        have q19_2_M12 : id (M12 19 2 = M 19 2) := (congrFun (fM120 19 (by unfold inT; first | decide | omega)) 2).trans q19_2_M9
        have q19_4_M12 : id (M12 19 4 = M 19 4) := (congrFun (fM120 19 (by unfold inT; first | decide | omega)) 4).trans q19_4_M9
        have q19_6_M12 : id (M12 19 6 = M 19 6) := (congrFun (fM120 19 (by unfold inT; first | decide | omega)) 6).trans q19_6_M9
        have q29_0_M12 : id (M12 29 0 = M 29 0) := (congrFun (fM120 29 (by unfold inT; first | decide | omega)) 0).trans q29_0_M9
        have q29_1_M12 : id (M12 29 1 = M 29 1) := (congrFun (fM120 29 (by unfold inT; first | decide | omega)) 1).trans q29_1_M9
        have q31_1_M12 : id (M12 31 1 = M 31 1) := (congrFun (fM120 31 (by unfold inT; first | decide | omega)) 1).trans q31_1_M9
        refine g_aload_n (pc' := 56) 1 dX9_lickGlass_55 rfl rfl ?_
        refine g_getR (pc' := 59) dX9_lickGlass_56 rfl f_X9_12 rfl rfl ?_
        refine g_getR (pc' := 62) dX9_lickGlass_59 rfl f_X9_86 rfl rfl ?_
        refine g_iload_n (pc' := 63) 2 dX9_lickGlass_62 rfl rfl ?_
        refine g_callVip (pc' := 66) (As := [vi a]) (b := 2) (S := []) dX9_lickGlass_63 rfl m_X9_98 w_X7_fullOf (c_X7_fullOf X M12 2 isT_2 (iM12.1 _ isT_2) a ha) rfl ⟨_, _, _, rfl, rfl, rfl⟩ (by decide) (by decide) rfl (Nat.le_of_ble_eq_true rfl) (fun z14 q13 => ?_)
        refine g_ireturn dX9_lickGlass_66 ?_
        exact ⟨iM12, fM12, q2_5_M12, q1_2_M12, q1_4_M12, q1_6_M12, q11_5_M12, q10_2_M12, q10_4_M12, q10_6_M12, q20_5_M12, q19_2_M12, q19_4_M12, q19_6_M12, q29_0_M12, q29_1_M12, q31_1_M12, by omega⟩
      · refine g_iload_n (pc' := 44) 0 dX9_lickGlass_43 rfl rfl ?_
        refine g_ireturn dX9_lickGlass_44 ?_
        exact ⟨iM9, fM9, q2_5_M9, q1_2_M9, q1_4_M9, q1_6_M9, q11_5_M9, q10_2_M9, q10_4_M9, q10_6_M9, q20_5_M9, q19_2_M9, q19_4_M9, q19_6_M9, q29_0_M9, q29_1_M9, q31_1_M9, by omega⟩
    · replace q4 := q4.resolve_left (fun h => absurd (c6.symm.trans h.1) (by decide))
      refine g_bipush (pc' := 25) (v := (-2)) dX9_lickGlass_23 rfl (by decide) ?_
      refine g_ireturn dX9_lickGlass_25 ?_
      exact ⟨hi, Fr.rf, rfl, rfl, rfl, rfl, rfl, rfl, rfl, rfl, rfl, rfl, rfl, rfl, rfl, rfl, rfl, by omega⟩
  · replace q1 := q1.resolve_left (fun h => absurd (c3.symm.trans h.1) (by decide))
    refine g_iconst (pc' := 8) dX9_lickGlass_7 rfl ?_
    refine g_ireturn dX9_lickGlass_8 ?_
    exact ⟨hi, Fr.rf, rfl, rfl, rfl, rfl, rfl, rfl, rfl, rfl, rfl, rfl, rfl, rfl, rfl, rfl, rfl, by omega⟩
set_option maxHeartbeats 4000000 in
set_option maxRecDepth 100000 in
theorem c_X9_lick (X : Cx) (M : Mm) (hi : IC M) (a : Int) (ha : inI a) (b : Int) (hb : inI b) : Con X 5 yX9_lick cX9_lick 3 (some .int) [vr X 0, vi a, vi b] M (Qi (fun r M1 => IC M1 ∧ Fr (fun c => c ≤ 96) M M1 ∧ M1 2 5 = M 2 5 ∧ M1 1 2 = M 1 2 ∧ M1 1 4 = M 1 4 ∧ M1 1 6 = M 1 6 ∧ M1 11 5 = M 11 5 ∧ M1 10 2 = M 10 2 ∧ M1 10 4 = M 10 4 ∧ M1 10 6 = M 10 6 ∧ M1 20 5 = M 20 5 ∧ M1 19 2 = M 19 2 ∧ M1 19 4 = M 19 4 ∧ M1 19 6 = M 19 6 ∧ M1 29 0 = M 29 0 ∧ M1 29 1 = M 29 1 ∧ M1 31 1 = M 31 1 ∧ (inI r))) := by
  refine Con.ofG rfl (Nat.le_of_ble_eq_true rfl) ?_
  show G X 5 RX9 cX9_lick 3 (some .int) (Qi (fun r M1 => IC M1 ∧ Fr (fun c => c ≤ 96) M M1 ∧ M1 2 5 = M 2 5 ∧ M1 1 2 = M 1 2 ∧ M1 1 4 = M 1 4 ∧ M1 1 6 = M 1 6 ∧ M1 11 5 = M 11 5 ∧ M1 10 2 = M 10 2 ∧ M1 10 4 = M 10 4 ∧ M1 10 6 = M 10 6 ∧ M1 20 5 = M 20 5 ∧ M1 19 2 = M 19 2 ∧ M1 19 4 = M 19 4 ∧ M1 19 6 = M 19 6 ∧ M1 29 0 = M 29 0 ∧ M1 29 1 = M 29 1 ∧ M1 31 1 = M 31 1 ∧ (inI r))) 0 [(0, vr X 0), (1, vi a), (2, vi b)] [] M
  have hi5 := (hi.1 2 isT_2).2.1
  have hi4 := (hi.1 2 isT_2).1
  have h12 := hi.2.1.1.1
  have h14 := hi.2.1.1.2.1
  have h16 := hi.2.1.1.2.2
  refine g_aload_n (pc' := 1) 0 dX9_lick_0 rfl rfl ?_
  refine g_aload_n (pc' := 2) 0 dX9_lick_1 rfl rfl ?_
  refine g_iload_n (pc' := 3) 1 dX9_lick_2 rfl rfl ?_
  refine g_iload_n (pc' := 4) 2 dX9_lick_3 rfl rfl ?_
  refine g_callVi (pc' := 7) (As := [vi a, vi b]) (b := 0) (S := [vr X 0]) dX9_lick_4 rfl m_X9_134 w_X9_lickGlass (c_X9_lickGlass X M hi a ha b hb) rfl ⟨_, _, _, rfl, rfl, rfl⟩ (by decide) (by decide) rfl (Nat.le_of_ble_eq_true rfl) (fun z2 M3 q1 => ?_)
  obtain ⟨iM3, fM30, eM3_2_5, eM3_1_2, eM3_1_4, eM3_1_6, eM3_11_5, eM3_10_2, eM3_10_4, eM3_10_6, eM3_20_5, eM3_19_2, eM3_19_4, eM3_19_6, eM3_29_0, eM3_29_1, eM3_31_1, pM3⟩ := q1
  have fM3 : Fr (fun c => c ≤ 96) M M3 := Fr.tr Fr.rf fM30 fi_9
  have q2_5_M3 : id (M3 2 5 = M 2 5) := eM3_2_5
  have q1_2_M3 : id (M3 1 2 = M 1 2) := eM3_1_2
  have q1_4_M3 : id (M3 1 4 = M 1 4) := eM3_1_4
  have q1_6_M3 : id (M3 1 6 = M 1 6) := eM3_1_6
  have q11_5_M3 : id (M3 11 5 = M 11 5) := eM3_11_5
  have q10_2_M3 : id (M3 10 2 = M 10 2) := eM3_10_2
  have q10_4_M3 : id (M3 10 4 = M 10 4) := eM3_10_4
  have q10_6_M3 : id (M3 10 6 = M 10 6) := eM3_10_6
  have q20_5_M3 : id (M3 20 5 = M 20 5) := eM3_20_5
  have q19_2_M3 : id (M3 19 2 = M 19 2) := eM3_19_2
  have q19_4_M3 : id (M3 19 4 = M 19 4) := eM3_19_4
  have q19_6_M3 : id (M3 19 6 = M 19 6) := eM3_19_6
  have q29_0_M3 : id (M3 29 0 = M 29 0) := eM3_29_0
  have q29_1_M3 : id (M3 29 1 = M 29 1) := eM3_29_1
  have q31_1_M3 : id (M3 31 1 = M 31 1) := eM3_31_1
  clear eM3_2_5 eM3_1_2 eM3_1_4 eM3_1_6 eM3_11_5 eM3_10_2 eM3_10_4 eM3_10_6 eM3_20_5 eM3_19_2 eM3_19_4 eM3_19_6 eM3_29_0 eM3_29_1 eM3_31_1
  refine g_callVi (pc' := 10) (As := [vi z2]) (b := 0) (S := []) dX9_lick_7 rfl m_X9_79 w_X9_answered (c_X9_answered X M3 iM3 z2 ⟨by omega, by omega⟩) rfl ⟨_, _, _, rfl, rfl, rfl⟩ (by decide) (by decide) rfl (Nat.le_of_ble_eq_true rfl) (fun z5 M6 q4 => ?_)
  obtain ⟨iM6, fM60, eM6_2_5, eM6_1_2, eM6_1_4, eM6_1_6, eM6_11_5, eM6_10_2, eM6_10_4, eM6_10_6, eM6_20_5, eM6_19_2, eM6_19_4, eM6_19_6, eM6_29_0, eM6_29_1, eM6_31_1, pM6⟩ := q4
  have fM6 : Fr (fun c => c ≤ 96) M M6 := Fr.tr fM3 fM60 fi_10
  have q2_5_M6 : id (M6 2 5 = M 2 5) := eM6_2_5.trans q2_5_M3
  have q1_2_M6 : id (M6 1 2 = M 1 2) := eM6_1_2.trans q1_2_M3
  have q1_4_M6 : id (M6 1 4 = M 1 4) := eM6_1_4.trans q1_4_M3
  have q1_6_M6 : id (M6 1 6 = M 1 6) := eM6_1_6.trans q1_6_M3
  have q11_5_M6 : id (M6 11 5 = M 11 5) := eM6_11_5.trans q11_5_M3
  have q10_2_M6 : id (M6 10 2 = M 10 2) := eM6_10_2.trans q10_2_M3
  have q10_4_M6 : id (M6 10 4 = M 10 4) := eM6_10_4.trans q10_4_M3
  have q10_6_M6 : id (M6 10 6 = M 10 6) := eM6_10_6.trans q10_6_M3
  have q20_5_M6 : id (M6 20 5 = M 20 5) := eM6_20_5.trans q20_5_M3
  have q19_2_M6 : id (M6 19 2 = M 19 2) := eM6_19_2.trans q19_2_M3
  have q19_4_M6 : id (M6 19 4 = M 19 4) := eM6_19_4.trans q19_4_M3
  have q19_6_M6 : id (M6 19 6 = M 19 6) := eM6_19_6.trans q19_6_M3
  have q29_0_M6 : id (M6 29 0 = M 29 0) := eM6_29_0.trans q29_0_M3
  have q29_1_M6 : id (M6 29 1 = M 29 1) := eM6_29_1.trans q29_1_M3
  have q31_1_M6 : id (M6 31 1 = M 31 1) := eM6_31_1.trans q31_1_M3
  clear eM6_2_5 eM6_1_2 eM6_1_4 eM6_1_6 eM6_11_5 eM6_10_2 eM6_10_4 eM6_10_6 eM6_20_5 eM6_19_2 eM6_19_4 eM6_19_6 eM6_29_0 eM6_29_1 eM6_31_1
  refine g_ireturn dX9_lick_10 ?_
  exact ⟨iM6, fM6, q2_5_M6, q1_2_M6, q1_4_M6, q1_6_M6, q11_5_M6, q10_2_M6, q10_4_M6, q10_6_M6, q20_5_M6, q19_2_M6, q19_4_M6, q19_6_M6, q29_0_M6, q29_1_M6, q31_1_M6, by omega⟩
set_option maxHeartbeats 4000000 in
set_option maxRecDepth 100000 in
theorem c_X9_emptyGlass (X : Cx) (M : Mm) (hi : IC M) (a : Int) (ha : inI a) : Con X 3 yX9_emptyGlass cX9_emptyGlass 3 (some .int) [vr X 0, vi a] M (Qi (fun r M1 => IC M1 ∧ Fr (fun c => 2 ≤ c ∧ c ≤ 6) M M1 ∧ M1 2 5 = M 2 5 ∧ M1 1 2 = M 1 2 ∧ M1 1 4 = M 1 4 ∧ M1 1 6 = M 1 6 ∧ M1 11 5 = M 11 5 ∧ M1 10 2 = M 10 2 ∧ M1 10 4 = M 10 4 ∧ M1 10 6 = M 10 6 ∧ M1 20 5 = M 20 5 ∧ M1 19 2 = M 19 2 ∧ M1 19 4 = M 19 4 ∧ M1 19 6 = M 19 6 ∧ M1 29 0 = M 29 0 ∧ M1 29 1 = M 29 1 ∧ M1 31 1 = M 31 1 ∧ (inI r))) := by
  refine Con.ofG rfl (Nat.le_of_ble_eq_true rfl) ?_
  show G X 3 RX9 cX9_emptyGlass 3 (some .int) (Qi (fun r M1 => IC M1 ∧ Fr (fun c => 2 ≤ c ∧ c ≤ 6) M M1 ∧ M1 2 5 = M 2 5 ∧ M1 1 2 = M 1 2 ∧ M1 1 4 = M 1 4 ∧ M1 1 6 = M 1 6 ∧ M1 11 5 = M 11 5 ∧ M1 10 2 = M 10 2 ∧ M1 10 4 = M 10 4 ∧ M1 10 6 = M 10 6 ∧ M1 20 5 = M 20 5 ∧ M1 19 2 = M 19 2 ∧ M1 19 4 = M 19 4 ∧ M1 19 6 = M 19 6 ∧ M1 29 0 = M 29 0 ∧ M1 29 1 = M 29 1 ∧ M1 31 1 = M 31 1 ∧ (inI r))) 0 [(0, vr X 0), (1, vi a)] [] M
  refine g_aload_n (pc' := 1) 0 dX9_emptyGlass_0 rfl rfl ?_
  refine g_getR (pc' := 4) dX9_emptyGlass_1 rfl f_X9_12 rfl rfl ?_
  refine g_getR (pc' := 7) dX9_emptyGlass_4 rfl f_X9_86 rfl rfl ?_
  refine g_iload_n (pc' := 8) 1 dX9_emptyGlass_7 rfl rfl ?_
  refine g_callVip (pc' := 11) (As := [vi a]) (b := 2) (S := []) dX9_emptyGlass_8 rfl m_X9_92 w_X7_has (c_X7_has X M 2 isT_2 (hi.1 _ isT_2) a ha) rfl ⟨_, _, _, rfl, rfl, rfl⟩ (by decide) (by decide) rfl (Nat.le_of_ble_eq_true rfl) (fun z2 q1 => ?_)
  refine g_if_ne (pc' := 14) (tgt := 17) ⟨by omega, by omega⟩ dX9_emptyGlass_11 rfl rfl (fun c3 => ?_) (fun c3 => ?_)
  · replace q1 := q1.resolve_right (fun h => c3 h.1)
    refine g_aload_n (pc' := 18) 0 dX9_emptyGlass_17 rfl rfl ?_
    refine g_getR (pc' := 21) dX9_emptyGlass_18 rfl f_X9_12 rfl rfl ?_
    refine g_getR (pc' := 24) dX9_emptyGlass_21 rfl f_X9_86 rfl rfl ?_
    refine g_iload_n (pc' := 25) 1 dX9_emptyGlass_24 rfl rfl ?_
    refine g_callVip (pc' := 28) (As := [vi a]) (b := 2) (S := []) dX9_emptyGlass_25 rfl m_X9_98 w_X7_fullOf (c_X7_fullOf X M 2 isT_2 (hi.1 _ isT_2) a ha) rfl ⟨_, _, _, rfl, rfl, rfl⟩ (by decide) (by decide) rfl (Nat.le_of_ble_eq_true rfl) (fun z5 q4 => ?_)
    refine g_istore_n (pc' := 29) (i := 2) (L' := [(2, vi z5), (0, vr X 0), (1, vi a)]) dX9_emptyGlass_28 rfl rfl (by decide) rfl ?_
    refine g_aload_n (pc' := 30) 1 dX9_emptyGlass_29 rfl rfl ?_
    refine g_getR (pc' := 33) dX9_emptyGlass_30 rfl f_X9_12 rfl rfl ?_
    refine g_getR (pc' := 36) dX9_emptyGlass_33 rfl f_X9_86 rfl rfl ?_
    refine g_iload_n (pc' := 37) 2 dX9_emptyGlass_36 rfl rfl ?_
    refine g_callVv (pc' := 40) (As := [vi a]) (b := 2) (S := []) dX9_emptyGlass_37 rfl m_X9_143 w_X7_clear (c_X7_clear X M 2 isT_2 (hi.1 _ isT_2) a ha) rfl ⟨_, _, _, rfl, rfl, rfl⟩ (by decide) (by decide) rfl (Nat.le_of_ble_eq_true rfl) (fun M7 q6 => ?_)
    obtain ⟨kM7, fM70, gM70⟩ := q6
    have iM7 : IC M7 := IC.ofT hi isT_2 fM70 kM7
    have fM7 : Fr (fun c => 2 ≤ c ∧ c ≤ 6) M M7 := Fr.tr Fr.rf fM70 (fun c z => by unfold inT at z; first | omega | (dsimp only; omega))
    have q2_5_M7 : id (M7 2 5 = M 2 5) := gM70
    have q1_2_M7 : id (M7 1 2 = M 1 2) := (congrFun (fM70 1 (by unfold inT; first | decide | omega)) 2)
    have q1_4_M7 : id (M7 1 4 = M 1 4) := (congrFun (fM70 1 (by unfold inT; first | decide | omega)) 4)
    have q1_6_M7 : id (M7 1 6 = M 1 6) := (congrFun (fM70 1 (by unfold inT; first | decide | omega)) 6)
    have q11_5_M7 : id (M7 11 5 = M 11 5) := (congrFun (fM70 11 (by unfold inT; first | decide | omega)) 5)
    have q10_2_M7 : id (M7 10 2 = M 10 2) := (congrFun (fM70 10 (by unfold inT; first | decide | omega)) 2)
    have q10_4_M7 : id (M7 10 4 = M 10 4) := (congrFun (fM70 10 (by unfold inT; first | decide | omega)) 4)
    have q10_6_M7 : id (M7 10 6 = M 10 6) := (congrFun (fM70 10 (by unfold inT; first | decide | omega)) 6)
    have q20_5_M7 : id (M7 20 5 = M 20 5) := (congrFun (fM70 20 (by unfold inT; first | decide | omega)) 5)
    have q19_2_M7 : id (M7 19 2 = M 19 2) := (congrFun (fM70 19 (by unfold inT; first | decide | omega)) 2)
    have q19_4_M7 : id (M7 19 4 = M 19 4) := (congrFun (fM70 19 (by unfold inT; first | decide | omega)) 4)
    have q19_6_M7 : id (M7 19 6 = M 19 6) := (congrFun (fM70 19 (by unfold inT; first | decide | omega)) 6)
    have q29_0_M7 : id (M7 29 0 = M 29 0) := (congrFun (fM70 29 (by unfold inT; first | decide | omega)) 0)
    have q29_1_M7 : id (M7 29 1 = M 29 1) := (congrFun (fM70 29 (by unfold inT; first | decide | omega)) 1)
    have q31_1_M7 : id (M7 31 1 = M 31 1) := (congrFun (fM70 31 (by unfold inT; first | decide | omega)) 1)
    refine g_aload_n (pc' := 41) 1 dX9_emptyGlass_40 rfl rfl ?_
    refine g_getR (pc' := 44) dX9_emptyGlass_41 rfl f_X9_12 rfl rfl ?_
    refine g_getR (pc' := 47) dX9_emptyGlass_44 rfl f_X9_86 rfl rfl ?_
    refine g_callVv (pc' := 50) (As := []) (b := 2) (S := []) dX9_emptyGlass_47 rfl m_X9_131 w_X7_toLowestTerms (c_X7_toLowestTerms X M7 2 isT_2 (iM7.1 _ isT_2)) rfl ⟨_, _, _, rfl, rfl, rfl⟩ (by decide) (by decide) rfl (Nat.le_of_ble_eq_true rfl) (fun M9 q8 => ?_)
    obtain ⟨kM9, fM90, gM90⟩ := q8
    have iM9 : IC M9 := IC.ofT iM7 isT_2 fM90 kM9
    have fM9 : Fr (fun c => 2 ≤ c ∧ c ≤ 6) M M9 := Fr.tr fM7 fM90 (fun c z => by unfold inT at z; first | omega | (dsimp only; omega))
    have q2_5_M9 : id (M9 2 5 = M 2 5) := gM90.trans q2_5_M7
    have q1_2_M9 : id (M9 1 2 = M 1 2) := (congrFun (fM90 1 (by unfold inT; first | decide | omega)) 2).trans q1_2_M7
    have q1_4_M9 : id (M9 1 4 = M 1 4) := (congrFun (fM90 1 (by unfold inT; first | decide | omega)) 4).trans q1_4_M7
    have q1_6_M9 : id (M9 1 6 = M 1 6) := (congrFun (fM90 1 (by unfold inT; first | decide | omega)) 6).trans q1_6_M7
    have q11_5_M9 : id (M9 11 5 = M 11 5) := (congrFun (fM90 11 (by unfold inT; first | decide | omega)) 5).trans q11_5_M7
    have q10_2_M9 : id (M9 10 2 = M 10 2) := (congrFun (fM90 10 (by unfold inT; first | decide | omega)) 2).trans q10_2_M7
    have q10_4_M9 : id (M9 10 4 = M 10 4) := (congrFun (fM90 10 (by unfold inT; first | decide | omega)) 4).trans q10_4_M7
    have q10_6_M9 : id (M9 10 6 = M 10 6) := (congrFun (fM90 10 (by unfold inT; first | decide | omega)) 6).trans q10_6_M7
    have q20_5_M9 : id (M9 20 5 = M 20 5) := (congrFun (fM90 20 (by unfold inT; first | decide | omega)) 5).trans q20_5_M7
    have q19_2_M9 : id (M9 19 2 = M 19 2) := (congrFun (fM90 19 (by unfold inT; first | decide | omega)) 2).trans q19_2_M7
    have q19_4_M9 : id (M9 19 4 = M 19 4) := (congrFun (fM90 19 (by unfold inT; first | decide | omega)) 4).trans q19_4_M7
    have q19_6_M9 : id (M9 19 6 = M 19 6) := (congrFun (fM90 19 (by unfold inT; first | decide | omega)) 6).trans q19_6_M7
    have q29_0_M9 : id (M9 29 0 = M 29 0) := (congrFun (fM90 29 (by unfold inT; first | decide | omega)) 0).trans q29_0_M7
    have q29_1_M9 : id (M9 29 1 = M 29 1) := (congrFun (fM90 29 (by unfold inT; first | decide | omega)) 1).trans q29_1_M7
    have q31_1_M9 : id (M9 31 1 = M 31 1) := (congrFun (fM90 31 (by unfold inT; first | decide | omega)) 1).trans q31_1_M7
    refine g_iload_n (pc' := 51) 0 dX9_emptyGlass_50 rfl rfl ?_
    refine g_ireturn dX9_emptyGlass_51 ?_
    exact ⟨iM9, fM9, q2_5_M9, q1_2_M9, q1_4_M9, q1_6_M9, q11_5_M9, q10_2_M9, q10_4_M9, q10_6_M9, q20_5_M9, q19_2_M9, q19_4_M9, q19_6_M9, q29_0_M9, q29_1_M9, q31_1_M9, by omega⟩
  · replace q1 := q1.resolve_left (fun h => absurd (c3.symm.trans h.1) (by decide))
    refine g_bipush (pc' := 16) (v := (-2)) dX9_emptyGlass_14 rfl (by decide) ?_
    refine g_ireturn dX9_emptyGlass_16 ?_
    exact ⟨hi, Fr.rf, rfl, rfl, rfl, rfl, rfl, rfl, rfl, rfl, rfl, rfl, rfl, rfl, rfl, rfl, rfl, by omega⟩
set_option maxHeartbeats 4000000 in
set_option maxRecDepth 100000 in
theorem c_X9_empty (X : Cx) (M : Mm) (hi : IC M) (a : Int) (ha : inI a) : Con X 4 yX9_empty cX9_empty 2 (some .int) [vr X 0, vi a] M (Qi (fun r M1 => IC M1 ∧ Fr (fun c => c ≤ 96) M M1 ∧ M1 2 5 = M 2 5 ∧ M1 1 2 = M 1 2 ∧ M1 1 4 = M 1 4 ∧ M1 1 6 = M 1 6 ∧ M1 11 5 = M 11 5 ∧ M1 10 2 = M 10 2 ∧ M1 10 4 = M 10 4 ∧ M1 10 6 = M 10 6 ∧ M1 20 5 = M 20 5 ∧ M1 19 2 = M 19 2 ∧ M1 19 4 = M 19 4 ∧ M1 19 6 = M 19 6 ∧ M1 29 0 = M 29 0 ∧ M1 29 1 = M 29 1 ∧ M1 31 1 = M 31 1 ∧ (inI r))) := by
  refine Con.ofG rfl (Nat.le_of_ble_eq_true rfl) ?_
  show G X 4 RX9 cX9_empty 2 (some .int) (Qi (fun r M1 => IC M1 ∧ Fr (fun c => c ≤ 96) M M1 ∧ M1 2 5 = M 2 5 ∧ M1 1 2 = M 1 2 ∧ M1 1 4 = M 1 4 ∧ M1 1 6 = M 1 6 ∧ M1 11 5 = M 11 5 ∧ M1 10 2 = M 10 2 ∧ M1 10 4 = M 10 4 ∧ M1 10 6 = M 10 6 ∧ M1 20 5 = M 20 5 ∧ M1 19 2 = M 19 2 ∧ M1 19 4 = M 19 4 ∧ M1 19 6 = M 19 6 ∧ M1 29 0 = M 29 0 ∧ M1 29 1 = M 29 1 ∧ M1 31 1 = M 31 1 ∧ (inI r))) 0 [(0, vr X 0), (1, vi a)] [] M
  have hi5 := (hi.1 2 isT_2).2.1
  have hi4 := (hi.1 2 isT_2).1
  have h12 := hi.2.1.1.1
  have h14 := hi.2.1.1.2.1
  have h16 := hi.2.1.1.2.2
  refine g_aload_n (pc' := 1) 0 dX9_empty_0 rfl rfl ?_
  refine g_aload_n (pc' := 2) 0 dX9_empty_1 rfl rfl ?_
  refine g_iload_n (pc' := 3) 1 dX9_empty_2 rfl rfl ?_
  refine g_callVi (pc' := 6) (As := [vi a]) (b := 0) (S := [vr X 0]) dX9_empty_3 rfl m_X9_140 w_X9_emptyGlass (c_X9_emptyGlass X M hi a ha) rfl ⟨_, _, _, rfl, rfl, rfl⟩ (by decide) (by decide) rfl (Nat.le_of_ble_eq_true rfl) (fun z2 M3 q1 => ?_)
  obtain ⟨iM3, fM30, eM3_2_5, eM3_1_2, eM3_1_4, eM3_1_6, eM3_11_5, eM3_10_2, eM3_10_4, eM3_10_6, eM3_20_5, eM3_19_2, eM3_19_4, eM3_19_6, eM3_29_0, eM3_29_1, eM3_31_1, pM3⟩ := q1
  have fM3 : Fr (fun c => c ≤ 96) M M3 := Fr.tr Fr.rf fM30 fi_9
  have q2_5_M3 : id (M3 2 5 = M 2 5) := eM3_2_5
  have q1_2_M3 : id (M3 1 2 = M 1 2) := eM3_1_2
  have q1_4_M3 : id (M3 1 4 = M 1 4) := eM3_1_4
  have q1_6_M3 : id (M3 1 6 = M 1 6) := eM3_1_6
  have q11_5_M3 : id (M3 11 5 = M 11 5) := eM3_11_5
  have q10_2_M3 : id (M3 10 2 = M 10 2) := eM3_10_2
  have q10_4_M3 : id (M3 10 4 = M 10 4) := eM3_10_4
  have q10_6_M3 : id (M3 10 6 = M 10 6) := eM3_10_6
  have q20_5_M3 : id (M3 20 5 = M 20 5) := eM3_20_5
  have q19_2_M3 : id (M3 19 2 = M 19 2) := eM3_19_2
  have q19_4_M3 : id (M3 19 4 = M 19 4) := eM3_19_4
  have q19_6_M3 : id (M3 19 6 = M 19 6) := eM3_19_6
  have q29_0_M3 : id (M3 29 0 = M 29 0) := eM3_29_0
  have q29_1_M3 : id (M3 29 1 = M 29 1) := eM3_29_1
  have q31_1_M3 : id (M3 31 1 = M 31 1) := eM3_31_1
  clear eM3_2_5 eM3_1_2 eM3_1_4 eM3_1_6 eM3_11_5 eM3_10_2 eM3_10_4 eM3_10_6 eM3_20_5 eM3_19_2 eM3_19_4 eM3_19_6 eM3_29_0 eM3_29_1 eM3_31_1
  refine g_callVi (pc' := 9) (As := [vi z2]) (b := 0) (S := []) dX9_empty_6 rfl m_X9_79 w_X9_answered (c_X9_answered X M3 iM3 z2 ⟨by omega, by omega⟩) rfl ⟨_, _, _, rfl, rfl, rfl⟩ (by decide) (by decide) rfl (Nat.le_of_ble_eq_true rfl) (fun z5 M6 q4 => ?_)
  obtain ⟨iM6, fM60, eM6_2_5, eM6_1_2, eM6_1_4, eM6_1_6, eM6_11_5, eM6_10_2, eM6_10_4, eM6_10_6, eM6_20_5, eM6_19_2, eM6_19_4, eM6_19_6, eM6_29_0, eM6_29_1, eM6_31_1, pM6⟩ := q4
  have fM6 : Fr (fun c => c ≤ 96) M M6 := Fr.tr fM3 fM60 fi_10
  have q2_5_M6 : id (M6 2 5 = M 2 5) := eM6_2_5.trans q2_5_M3
  have q1_2_M6 : id (M6 1 2 = M 1 2) := eM6_1_2.trans q1_2_M3
  have q1_4_M6 : id (M6 1 4 = M 1 4) := eM6_1_4.trans q1_4_M3
  have q1_6_M6 : id (M6 1 6 = M 1 6) := eM6_1_6.trans q1_6_M3
  have q11_5_M6 : id (M6 11 5 = M 11 5) := eM6_11_5.trans q11_5_M3
  have q10_2_M6 : id (M6 10 2 = M 10 2) := eM6_10_2.trans q10_2_M3
  have q10_4_M6 : id (M6 10 4 = M 10 4) := eM6_10_4.trans q10_4_M3
  have q10_6_M6 : id (M6 10 6 = M 10 6) := eM6_10_6.trans q10_6_M3
  have q20_5_M6 : id (M6 20 5 = M 20 5) := eM6_20_5.trans q20_5_M3
  have q19_2_M6 : id (M6 19 2 = M 19 2) := eM6_19_2.trans q19_2_M3
  have q19_4_M6 : id (M6 19 4 = M 19 4) := eM6_19_4.trans q19_4_M3
  have q19_6_M6 : id (M6 19 6 = M 19 6) := eM6_19_6.trans q19_6_M3
  have q29_0_M6 : id (M6 29 0 = M 29 0) := eM6_29_0.trans q29_0_M3
  have q29_1_M6 : id (M6 29 1 = M 29 1) := eM6_29_1.trans q29_1_M3
  have q31_1_M6 : id (M6 31 1 = M 31 1) := eM6_31_1.trans q31_1_M3
  clear eM6_2_5 eM6_1_2 eM6_1_4 eM6_1_6 eM6_11_5 eM6_10_2 eM6_10_4 eM6_10_6 eM6_20_5 eM6_19_2 eM6_19_4 eM6_19_6 eM6_29_0 eM6_29_1 eM6_31_1
  refine g_ireturn dX9_empty_9 ?_
  exact ⟨iM6, fM6, q2_5_M6, q1_2_M6, q1_4_M6, q1_6_M6, q11_5_M6, q10_2_M6, q10_4_M6, q10_6_M6, q20_5_M6, q19_2_M6, q19_4_M6, q19_6_M6, q29_0_M6, q29_1_M6, q31_1_M6, by omega⟩
set_option maxHeartbeats 4000000 in
set_option maxRecDepth 100000 in
theorem c_X9_of (X : Cx) (M : Mm) (hi : IC M) (a : Int) (ha : inI a) (b : Int) (hb : inI b) : Con X 10 yX9_of cX9_of 3 (some .int) [vr X 0, vi a, vi b] M (Qi (fun r M1 => M1 = M ∧ (inI r))) := by
  refine Con.ofG rfl (Nat.le_of_ble_eq_true rfl) ?_
  show G X 10 RX9 cX9_of 3 (some .int) (Qi (fun r M1 => M1 = M ∧ (inI r))) 0 [(0, vr X 0), (1, vi a), (2, vi b)] [] M
  refine g_iload_n (pc' := 1) 2 dX9_of_0 rfl rfl ?_
  refine g_if_ne (pc' := 4) (tgt := 30) hb dX9_of_1 rfl rfl (fun c1 => ?_) (fun c1 => ?_)
  · refine g_iload_n (pc' := 31) 2 dX9_of_30 rfl rfl ?_
    refine g_iconst (pc' := 32) dX9_of_31 rfl ?_
    refine g_ic_ne (pc' := 35) (tgt := 61) hb (by decide) dX9_of_32 rfl rfl (fun c2 => ?_) (fun c2 => ?_)
    · refine g_iconst (pc' := 62) dX9_of_61 rfl ?_
      refine g_ireturn dX9_of_62 ?_
      exact ⟨rfl, by first | assumption | decide | omega⟩
    · refine g_aload_n (pc' := 36) 0 dX9_of_35 rfl rfl ?_
      refine g_getR (pc' := 39) dX9_of_36 rfl f_X9_12 rfl rfl ?_
      refine g_getR (pc' := 42) dX9_of_39 rfl f_X9_86 rfl rfl ?_
      refine g_iload_n (pc' := 43) 1 dX9_of_42 rfl rfl ?_
      refine g_callVip (pc' := 46) (As := [vi a]) (b := 2) (S := []) dX9_of_43 rfl m_X9_92 w_X7_has (c_X7_has X M 2 isT_2 (hi.1 _ isT_2) a ha) rfl ⟨_, _, _, rfl, rfl, rfl⟩ (by decide) (by decide) rfl (Nat.le_of_ble_eq_true rfl) (fun z4 q3 => ?_)
      refine g_if_eq (pc' := 49) (tgt := 61) ⟨by omega, by omega⟩ dX9_of_46 rfl rfl (fun c5 => ?_) (fun c5 => ?_)
      · replace q3 := q3.resolve_left (fun h => absurd (c5.symm.trans h.1) (by decide))
        refine g_iconst (pc' := 62) dX9_of_61 rfl ?_
        refine g_ireturn dX9_of_62 ?_
        exact ⟨rfl, by first | assumption | decide | omega⟩
      · replace q3 := q3.resolve_right (fun h => c5 h.1)
        refine g_aload_n (pc' := 50) 0 dX9_of_49 rfl rfl ?_
        refine g_getR (pc' := 53) dX9_of_50 rfl f_X9_12 rfl rfl ?_
        refine g_getR (pc' := 56) dX9_of_53 rfl f_X9_86 rfl rfl ?_
        refine g_iload_n (pc' := 57) 1 dX9_of_56 rfl rfl ?_
        refine g_callVip (pc' := 60) (As := [vi a]) (b := 2) (S := []) dX9_of_57 rfl m_X9_98 w_X7_fullOf (c_X7_fullOf X M 2 isT_2 (hi.1 _ isT_2) a ha) rfl ⟨_, _, _, rfl, rfl, rfl⟩ (by decide) (by decide) rfl (Nat.le_of_ble_eq_true rfl) (fun z7 q6 => ?_)
        refine g_ireturn dX9_of_60 ?_
        exact ⟨rfl, by first | assumption | decide | omega⟩
  · refine g_aload_n (pc' := 5) 0 dX9_of_4 rfl rfl ?_
    refine g_getR (pc' := 8) dX9_of_5 rfl f_X9_12 rfl rfl ?_
    refine g_getR (pc' := 11) dX9_of_8 rfl f_X9_86 rfl rfl ?_
    refine g_iload_n (pc' := 12) 1 dX9_of_11 rfl rfl ?_
    refine g_callVip (pc' := 15) (As := [vi a]) (b := 2) (S := []) dX9_of_12 rfl m_X9_92 w_X7_has (c_X7_has X M 2 isT_2 (hi.1 _ isT_2) a ha) rfl ⟨_, _, _, rfl, rfl, rfl⟩ (by decide) (by decide) rfl (Nat.le_of_ble_eq_true rfl) (fun z9 q8 => ?_)
    refine g_if_eq (pc' := 18) (tgt := 30) ⟨by omega, by omega⟩ dX9_of_15 rfl rfl (fun c10 => ?_) (fun c10 => ?_)
    · replace q8 := q8.resolve_left (fun h => absurd (c10.symm.trans h.1) (by decide))
      refine g_iload_n (pc' := 31) 2 dX9_of_30 rfl rfl ?_
      refine g_iconst (pc' := 32) dX9_of_31 rfl ?_
      refine g_ic_ne (pc' := 35) (tgt := 61) hb (by decide) dX9_of_32 rfl rfl (fun c11 => ?_) (fun c11 => ?_)
      · refine g_iconst (pc' := 62) dX9_of_61 rfl ?_
        refine g_ireturn dX9_of_62 ?_
        exact ⟨rfl, by first | assumption | decide | omega⟩
      · refine g_aload_n (pc' := 36) 0 dX9_of_35 rfl rfl ?_
        refine g_getR (pc' := 39) dX9_of_36 rfl f_X9_12 rfl rfl ?_
        refine g_getR (pc' := 42) dX9_of_39 rfl f_X9_86 rfl rfl ?_
        refine g_iload_n (pc' := 43) 1 dX9_of_42 rfl rfl ?_
        refine g_callVip (pc' := 46) (As := [vi a]) (b := 2) (S := []) dX9_of_43 rfl m_X9_92 w_X7_has (c_X7_has X M 2 isT_2 (hi.1 _ isT_2) a ha) rfl ⟨_, _, _, rfl, rfl, rfl⟩ (by decide) (by decide) rfl (Nat.le_of_ble_eq_true rfl) (fun z13 q12 => ?_)
        refine g_if_eq (pc' := 49) (tgt := 61) ⟨by omega, by omega⟩ dX9_of_46 rfl rfl (fun c14 => ?_) (fun c14 => ?_)
        · replace q12 := q12.resolve_left (fun h => absurd (c14.symm.trans h.1) (by decide))
          refine g_iconst (pc' := 62) dX9_of_61 rfl ?_
          refine g_ireturn dX9_of_62 ?_
          exact ⟨rfl, by first | assumption | decide | omega⟩
        · replace q12 := q12.resolve_right (fun h => c14 h.1)
          refine g_aload_n (pc' := 50) 0 dX9_of_49 rfl rfl ?_
          refine g_getR (pc' := 53) dX9_of_50 rfl f_X9_12 rfl rfl ?_
          refine g_getR (pc' := 56) dX9_of_53 rfl f_X9_86 rfl rfl ?_
          refine g_iload_n (pc' := 57) 1 dX9_of_56 rfl rfl ?_
          refine g_callVip (pc' := 60) (As := [vi a]) (b := 2) (S := []) dX9_of_57 rfl m_X9_98 w_X7_fullOf (c_X7_fullOf X M 2 isT_2 (hi.1 _ isT_2) a ha) rfl ⟨_, _, _, rfl, rfl, rfl⟩ (by decide) (by decide) rfl (Nat.le_of_ble_eq_true rfl) (fun z16 q15 => ?_)
          refine g_ireturn dX9_of_60 ?_
          exact ⟨rfl, by first | assumption | decide | omega⟩
    · replace q8 := q8.resolve_right (fun h => c10 h.1)
      refine g_aload_n (pc' := 19) 0 dX9_of_18 rfl rfl ?_
      refine g_getR (pc' := 22) dX9_of_19 rfl f_X9_12 rfl rfl ?_
      refine g_getR (pc' := 25) dX9_of_22 rfl f_X9_86 rfl rfl ?_
      refine g_iload_n (pc' := 26) 1 dX9_of_25 rfl rfl ?_
      refine g_callVip (pc' := 29) (As := [vi a]) (b := 2) (S := []) dX9_of_26 rfl m_X9_95 w_X7_sizeOf (c_X7_sizeOf X M 2 isT_2 (hi.1 _ isT_2) a ha) rfl ⟨_, _, _, rfl, rfl, rfl⟩ (by decide) (by decide) rfl (Nat.le_of_ble_eq_true rfl) (fun z18 q17 => ?_)
      refine g_ireturn dX9_of_29 ?_
      exact ⟨rfl, by first | assumption | decide | omega⟩
set_option maxHeartbeats 4000000 in
set_option maxRecDepth 100000 in
theorem c_X9_part (X : Cx) (M : Mm) (hi : IC M) (a : Int) (ha : inI a) (b : Int) (hb : inI b) : Con X 10 yX9_part cX9_part 3 (some .long) [vr X 0, vi a, vi b] M (Ql (fun r M1 => M1 = M ∧ (inL r))) := by
  refine Con.ofG rfl (Nat.le_of_ble_eq_true rfl) ?_
  show G X 10 RX9 cX9_part 3 (some .long) (Ql (fun r M1 => M1 = M ∧ (inL r))) 0 [(0, vr X 0), (1, vi a), (2, vi b)] [] M
  refine g_aload_n (pc' := 1) 0 dX9_part_0 rfl rfl ?_
  refine g_getR (pc' := 4) dX9_part_1 rfl f_X9_12 rfl rfl ?_
  refine g_getR (pc' := 7) dX9_part_4 rfl f_X9_86 rfl rfl ?_
  refine g_iload_n (pc' := 8) 1 dX9_part_7 rfl rfl ?_
  refine g_callVip (pc' := 11) (As := [vi a]) (b := 2) (S := []) dX9_part_8 rfl m_X9_92 w_X7_has (c_X7_has X M 2 isT_2 (hi.1 _ isT_2) a ha) rfl ⟨_, _, _, rfl, rfl, rfl⟩ (by decide) (by decide) rfl (Nat.le_of_ble_eq_true rfl) (fun z2 q1 => ?_)
  refine g_if_eq (pc' := 14) (tgt := 21) ⟨by omega, by omega⟩ dX9_part_11 rfl rfl (fun c3 => ?_) (fun c3 => ?_)
  · replace q1 := q1.resolve_left (fun h => absurd (c3.symm.trans h.1) (by decide))
    refine g_ldc2 (pc' := 24) (v := (-1)) dX9_part_21 rfl k_X9_104 ?_
    refine g_lreturn dX9_part_24 ?_
    exact ⟨rfl, by first | assumption | decide | omega⟩
  · replace q1 := q1.resolve_right (fun h => c3 h.1)
    refine g_iload_n (pc' := 15) 2 dX9_part_14 rfl rfl ?_
    refine g_callSip (pc' := 18) (As := [vi b]) (S := []) dX9_part_15 rfl m_X9_101 w_X9_isStuff (c_X9_isStuff X M b hb) rfl (by decide) (by decide) rfl (Nat.le_of_ble_eq_true rfl) (fun z5 q4 => ?_)
    refine g_if_ne (pc' := 21) (tgt := 25) ⟨by omega, by omega⟩ dX9_part_18 rfl rfl (fun c6 => ?_) (fun c6 => ?_)
    · replace q4 := q4.resolve_right (fun h => c6 h.1)
      refine g_aload_n (pc' := 26) 0 dX9_part_25 rfl rfl ?_
      refine g_getR (pc' := 29) dX9_part_26 rfl f_X9_12 rfl rfl ?_
      refine g_getR (pc' := 32) dX9_part_29 rfl f_X9_86 rfl rfl ?_
      refine g_iload_n (pc' := 33) 1 dX9_part_32 rfl rfl ?_
      refine g_iload_n (pc' := 34) 2 dX9_part_33 rfl rfl ?_
      refine g_callVlp (pc' := 37) (As := [vi a, vi b]) (b := 2) (S := []) dX9_part_34 rfl m_X9_106 w_X7_partOf (c_X7_partOf X M 2 isT_2 (hi.1 _ isT_2) a ha b hb) rfl ⟨_, _, _, rfl, rfl, rfl⟩ (by decide) (by decide) rfl (Nat.le_of_ble_eq_true rfl) (fun z8 q7 => ?_)
      refine g_lreturn dX9_part_37 ?_
      exact ⟨rfl, by first | assumption | decide | omega⟩
    · replace q4 := q4.resolve_left (fun h => absurd (c6.symm.trans h.1) (by decide))
      refine g_ldc2 (pc' := 24) (v := (-1)) dX9_part_21 rfl k_X9_104 ?_
      refine g_lreturn dX9_part_24 ?_
      exact ⟨rfl, by first | assumption | decide | omega⟩
set_option maxHeartbeats 4000000 in
set_option maxRecDepth 100000 in
theorem c_X9_lower (X : Cx) (M : Mm) (hi : IC M) : Con X 10 yX9_lower cX9_lower 1 (some .long) [vr X 0] M (Ql (fun r M1 => M1 = M ∧ (inL r))) := by
  refine Con.ofG rfl (Nat.le_of_ble_eq_true rfl) ?_
  show G X 10 RX9 cX9_lower 1 (some .long) (Ql (fun r M1 => M1 = M ∧ (inL r))) 0 [(0, vr X 0)] [] M
  refine g_aload_n (pc' := 1) 0 dX9_lower_0 rfl rfl ?_
  refine g_getR (pc' := 4) dX9_lower_1 rfl f_X9_12 rfl rfl ?_
  refine g_getR (pc' := 7) dX9_lower_4 rfl f_X9_86 rfl rfl ?_
  refine g_getL (pc' := 10) dX9_lower_7 rfl f_X9_110 rfl rfl (fun v1 ev1 rv1 => ?_)
  refine g_lreturn dX9_lower_10 ?_
  exact ⟨rfl, by first | assumption | decide | omega⟩
set_option maxHeartbeats 4000000 in
set_option maxRecDepth 100000 in
theorem c_X9_taste (X : Cx) (M : Mm) (hi : IC M) (a : Int) (ha : inI a) (b : Int) (hb : inI b) : Con X 10 yX9_taste cX9_taste 3 (some .int) [vr X 0, vi a, vi b] M (Qi (fun r M1 => M1 = M ∧ (inI r))) := by
  refine Con.ofG rfl (Nat.le_of_ble_eq_true rfl) ?_
  show G X 10 RX9 cX9_taste 3 (some .int) (Qi (fun r M1 => M1 = M ∧ (inI r))) 0 [(0, vr X 0), (1, vi a), (2, vi b)] [] M
  refine g_aload_n (pc' := 1) 0 dX9_taste_0 rfl rfl ?_
  refine g_getR (pc' := 4) dX9_taste_1 rfl f_X9_12 rfl rfl ?_
  refine g_getR (pc' := 7) dX9_taste_4 rfl f_X9_86 rfl rfl ?_
  refine g_iload_n (pc' := 8) 1 dX9_taste_7 rfl rfl ?_
  refine g_callVip (pc' := 11) (As := [vi a]) (b := 2) (S := []) dX9_taste_8 rfl m_X9_92 w_X7_has (c_X7_has X M 2 isT_2 (hi.1 _ isT_2) a ha) rfl ⟨_, _, _, rfl, rfl, rfl⟩ (by decide) (by decide) rfl (Nat.le_of_ble_eq_true rfl) (fun z2 q1 => ?_)
  refine g_if_eq (pc' := 14) (tgt := 21) ⟨by omega, by omega⟩ dX9_taste_11 rfl rfl (fun c3 => ?_) (fun c3 => ?_)
  · replace q1 := q1.resolve_left (fun h => absurd (c3.symm.trans h.1) (by decide))
    refine g_iconst (pc' := 22) dX9_taste_21 rfl ?_
    refine g_ireturn dX9_taste_22 ?_
    exact ⟨rfl, by first | assumption | decide | omega⟩
  · replace q1 := q1.resolve_right (fun h => c3 h.1)
    refine g_iload_n (pc' := 15) 2 dX9_taste_14 rfl rfl ?_
    refine g_callSip (pc' := 18) (As := [vi b]) (S := []) dX9_taste_15 rfl m_X9_101 w_X9_isStuff (c_X9_isStuff X M b hb) rfl (by decide) (by decide) rfl (Nat.le_of_ble_eq_true rfl) (fun z5 q4 => ?_)
    refine g_if_ne (pc' := 21) (tgt := 23) ⟨by omega, by omega⟩ dX9_taste_18 rfl rfl (fun c6 => ?_) (fun c6 => ?_)
    · replace q4 := q4.resolve_right (fun h => c6 h.1)
      refine g_aload_n (pc' := 24) 0 dX9_taste_23 rfl rfl ?_
      refine g_getR (pc' := 27) dX9_taste_24 rfl f_X9_12 rfl rfl ?_
      refine g_getR (pc' := 30) dX9_taste_27 rfl f_X9_86 rfl rfl ?_
      refine g_iload_n (pc' := 31) 1 dX9_taste_30 rfl rfl ?_
      refine g_iload_n (pc' := 32) 2 dX9_taste_31 rfl rfl ?_
      refine g_callVip (pc' := 35) (As := [vi a, vi b]) (b := 2) (S := []) dX9_taste_32 rfl m_X9_114 w_X7_tasteOf (c_X7_tasteOf X M 2 isT_2 (hi.1 _ isT_2) a ha b hb) rfl ⟨_, _, _, rfl, rfl, rfl⟩ (by decide) (by decide) rfl (Nat.le_of_ble_eq_true rfl) (fun z8 q7 => ?_)
      refine g_ireturn dX9_taste_35 ?_
      exact ⟨rfl, by first | assumption | decide | omega⟩
    · replace q4 := q4.resolve_left (fun h => absurd (c6.symm.trans h.1) (by decide))
      refine g_iconst (pc' := 22) dX9_taste_21 rfl ?_
      refine g_ireturn dX9_taste_22 ?_
      exact ⟨rfl, by first | assumption | decide | omega⟩
set_option maxHeartbeats 4000000 in
set_option maxRecDepth 100000 in
theorem c_X9_alike (X : Cx) (M : Mm) (hi : IC M) (a : Int) (ha : inI a) (b : Int) (hb : inI b) (c : Int) (hc : inI c) : Con X 10 yX9_alike cX9_alike 4 (some .int) [vr X 0, vi a, vi b, vi c] M (Qi (fun r M1 => M1 = M ∧ (inI r))) := by
  refine Con.ofG rfl (Nat.le_of_ble_eq_true rfl) ?_
  show G X 10 RX9 cX9_alike 4 (some .int) (Qi (fun r M1 => M1 = M ∧ (inI r))) 0 [(0, vr X 0), (1, vi a), (2, vi b), (3, vi c)] [] M
  refine g_aload_n (pc' := 1) 0 dX9_alike_0 rfl rfl ?_
  refine g_getR (pc' := 4) dX9_alike_1 rfl f_X9_12 rfl rfl ?_
  refine g_getR (pc' := 7) dX9_alike_4 rfl f_X9_86 rfl rfl ?_
  refine g_iload_n (pc' := 8) 1 dX9_alike_7 rfl rfl ?_
  refine g_callVip (pc' := 11) (As := [vi a]) (b := 2) (S := []) dX9_alike_8 rfl m_X9_92 w_X7_has (c_X7_has X M 2 isT_2 (hi.1 _ isT_2) a ha) rfl ⟨_, _, _, rfl, rfl, rfl⟩ (by decide) (by decide) rfl (Nat.le_of_ble_eq_true rfl) (fun z2 q1 => ?_)
  refine g_if_eq (pc' := 14) (tgt := 35) ⟨by omega, by omega⟩ dX9_alike_11 rfl rfl (fun c3 => ?_) (fun c3 => ?_)
  · replace q1 := q1.resolve_left (fun h => absurd (c3.symm.trans h.1) (by decide))
    refine g_iconst (pc' := 36) dX9_alike_35 rfl ?_
    refine g_ireturn dX9_alike_36 ?_
    exact ⟨rfl, by first | assumption | decide | omega⟩
  · replace q1 := q1.resolve_right (fun h => c3 h.1)
    refine g_aload_n (pc' := 15) 0 dX9_alike_14 rfl rfl ?_
    refine g_getR (pc' := 18) dX9_alike_15 rfl f_X9_12 rfl rfl ?_
    refine g_getR (pc' := 21) dX9_alike_18 rfl f_X9_86 rfl rfl ?_
    refine g_iload_n (pc' := 22) 2 dX9_alike_21 rfl rfl ?_
    refine g_callVip (pc' := 25) (As := [vi b]) (b := 2) (S := []) dX9_alike_22 rfl m_X9_92 w_X7_has (c_X7_has X M 2 isT_2 (hi.1 _ isT_2) b hb) rfl ⟨_, _, _, rfl, rfl, rfl⟩ (by decide) (by decide) rfl (Nat.le_of_ble_eq_true rfl) (fun z5 q4 => ?_)
    refine g_if_eq (pc' := 28) (tgt := 35) ⟨by omega, by omega⟩ dX9_alike_25 rfl rfl (fun c6 => ?_) (fun c6 => ?_)
    · replace q4 := q4.resolve_left (fun h => absurd (c6.symm.trans h.1) (by decide))
      refine g_iconst (pc' := 36) dX9_alike_35 rfl ?_
      refine g_ireturn dX9_alike_36 ?_
      exact ⟨rfl, by first | assumption | decide | omega⟩
    · replace q4 := q4.resolve_right (fun h => c6 h.1)
      refine g_iload_n (pc' := 29) 3 dX9_alike_28 rfl rfl ?_
      refine g_callSip (pc' := 32) (As := [vi c]) (S := []) dX9_alike_29 rfl m_X9_101 w_X9_isStuff (c_X9_isStuff X M c hc) rfl (by decide) (by decide) rfl (Nat.le_of_ble_eq_true rfl) (fun z8 q7 => ?_)
      refine g_if_ne (pc' := 35) (tgt := 37) ⟨by omega, by omega⟩ dX9_alike_32 rfl rfl (fun c9 => ?_) (fun c9 => ?_)
      · replace q7 := q7.resolve_right (fun h => c9 h.1)
        refine g_aload_n (pc' := 38) 0 dX9_alike_37 rfl rfl ?_
        refine g_getR (pc' := 41) dX9_alike_38 rfl f_X9_12 rfl rfl ?_
        refine g_getR (pc' := 44) dX9_alike_41 rfl f_X9_86 rfl rfl ?_
        refine g_iload_n (pc' := 45) 1 dX9_alike_44 rfl rfl ?_
        refine g_iload_n (pc' := 46) 2 dX9_alike_45 rfl rfl ?_
        refine g_iload_n (pc' := 47) 3 dX9_alike_46 rfl rfl ?_
        refine g_callVip (pc' := 50) (As := [vi a, vi b, vi c]) (b := 2) (S := []) dX9_alike_47 rfl m_X9_183 w_X7_asStrong (c_X7_asStrong X M 2 isT_2 (hi.1 _ isT_2) a ha b hb c hc) rfl ⟨_, _, _, rfl, rfl, rfl⟩ (by decide) (by decide) rfl (Nat.le_of_ble_eq_true rfl) (fun z11 q10 => ?_)
        refine g_if_eq (pc' := 53) (tgt := 57) ⟨by omega, by omega⟩ dX9_alike_50 rfl rfl (fun c12 => ?_) (fun c12 => ?_)
        · refine g_iconst (pc' := 58) dX9_alike_57 rfl ?_
          refine g_ireturn dX9_alike_58 ?_
          exact ⟨rfl, by first | assumption | decide | omega⟩
        · refine g_iconst (pc' := 54) dX9_alike_53 rfl ?_
          refine g_goto (tgt := 58) dX9_alike_54 rfl ?_
          refine g_ireturn dX9_alike_58 ?_
          exact ⟨rfl, by first | assumption | decide | omega⟩
      · replace q7 := q7.resolve_left (fun h => absurd (c9.symm.trans h.1) (by decide))
        refine g_iconst (pc' := 36) dX9_alike_35 rfl ?_
        refine g_ireturn dX9_alike_36 ?_
        exact ⟨rfl, by first | assumption | decide | omega⟩
set_option maxHeartbeats 4000000 in
set_option maxRecDepth 100000 in
theorem c_X9_spilt (X : Cx) (M : Mm) (hi : IC M) : Con X 10 yX9_spilt cX9_spilt 1 (some .int) [vr X 0] M (Qi (fun r M1 => M1 = M ∧ (inI r))) := by
  refine Con.ofG rfl (Nat.le_of_ble_eq_true rfl) ?_
  show G X 10 RX9 cX9_spilt 1 (some .int) (Qi (fun r M1 => M1 = M ∧ (inI r))) 0 [(0, vr X 0)] [] M
  refine g_aload_n (pc' := 1) 0 dX9_spilt_0 rfl rfl ?_
  refine g_getI (pc' := 4) dX9_spilt_1 rfl f_X9_162 rfl rfl (fun v1 ev1 rv1 => ?_)
  refine g_ireturn dX9_spilt_4 ?_
  exact ⟨rfl, by first | assumption | decide | omega⟩
set_option maxHeartbeats 4000000 in
set_option maxRecDepth 100000 in
theorem c_X9_fault (X : Cx) (M : Mm) (hi : IC M) : Con X 10 yX9_fault cX9_fault 1 (some .int) [vr X 0] M (Qi (fun r M1 => M1 = M ∧ (inI r))) := by
  refine Con.ofG rfl (Nat.le_of_ble_eq_true rfl) ?_
  show G X 10 RX9 cX9_fault 1 (some .int) (Qi (fun r M1 => M1 = M ∧ (inI r))) 0 [(0, vr X 0)] [] M
  refine g_aload_n (pc' := 1) 0 dX9_fault_0 rfl rfl ?_
  refine g_getI (pc' := 4) dX9_fault_1 rfl f_X9_68 rfl rfl (fun v1 ev1 rv1 => ?_)
  refine g_ireturn dX9_fault_4 ?_
  exact ⟨rfl, by first | assumption | decide | omega⟩
set_option maxHeartbeats 4000000 in
set_option maxRecDepth 100000 in
theorem c_X9_stopped (X : Cx) (M : Mm) (hi : IC M) : Con X 10 yX9_stopped cX9_stopped 1 (some .int) [vr X 0] M (Qi (fun r M1 => M1 = M ∧ (inI r))) := by
  refine Con.ofG rfl (Nat.le_of_ble_eq_true rfl) ?_
  show G X 10 RX9 cX9_stopped 1 (some .int) (Qi (fun r M1 => M1 = M ∧ (inI r))) 0 [(0, vr X 0)] [] M
  refine g_aload_n (pc' := 1) 0 dX9_stopped_0 rfl rfl ?_
  refine g_getI (pc' := 4) dX9_stopped_1 rfl f_X9_72 rfl rfl (fun v1 ev1 rv1 => ?_)
  refine g_ireturn dX9_stopped_4 ?_
  exact ⟨rfl, by first | assumption | decide | omega⟩
set_option maxHeartbeats 4000000 in
set_option maxRecDepth 100000 in
theorem c_X9_status (X : Cx) (M : Mm) (hi : IC M) : Con X 10 yX9_status cX9_status 1 (some .int) [vr X 0] M (Qi (fun r M1 => M1 = M ∧ (inI r))) := by
  refine Con.ofG rfl (Nat.le_of_ble_eq_true rfl) ?_
  show G X 10 RX9 cX9_status 1 (some .int) (Qi (fun r M1 => M1 = M ∧ (inI r))) 0 [(0, vr X 0)] [] M
  refine g_aload_n (pc' := 1) 0 dX9_status_0 rfl rfl ?_
  refine g_getI (pc' := 4) dX9_status_1 rfl f_X9_295 rfl rfl (fun v1 ev1 rv1 => ?_)
  refine g_ireturn dX9_status_4 ?_
  exact ⟨rfl, by first | assumption | decide | omega⟩
set_option maxHeartbeats 4000000 in
set_option maxRecDepth 100000 in
theorem c_X9_both (X : Cx) (M : Mm) (hi : IC M) (a : Int) (ha : inI a) (b : Int) (hb : inI b) (c : Int) (hc : inI c) (w : Int) (hw : inI w) : Con X 10 yX9_both cX9_both 5 (some .long) [vr X 0, vi a, vi b, vi c, vi w] M (Ql (fun r M1 => M1 = M ∧ (inL r))) := by
  refine Con.ofG rfl (Nat.le_of_ble_eq_true rfl) ?_
  show G X 10 RX9 cX9_both 5 (some .long) (Ql (fun r M1 => M1 = M ∧ (inL r))) 0 [(0, vr X 0), (1, vi a), (2, vi b), (3, vi c), (4, vi w)] [] M
  refine g_iload_n (pc' := 1) 1 dX9_both_0 rfl rfl ?_
  refine g_iload_n (pc' := 2) 2 dX9_both_1 rfl rfl ?_
  refine g_callSip (pc' := 5) (As := [vi a, vi b]) (S := []) dX9_both_2 rfl m_X9_187 w_X9_isBoth (c_X9_isBoth X M a ha b hb) rfl (by decide) (by decide) rfl (Nat.le_of_ble_eq_true rfl) (fun z2 q1 => ?_)
  refine g_if_eq (pc' := 8) (tgt := 18) ⟨by omega, by omega⟩ dX9_both_5 rfl rfl (fun c3 => ?_) (fun c3 => ?_)
  · replace q1 := q1.resolve_left (fun h => absurd (c3.symm.trans h.1) (by decide))
    refine g_ldc2 (pc' := 21) (v := (-1)) dX9_both_18 rfl k_X9_104 ?_
    refine g_lreturn dX9_both_21 ?_
    exact ⟨rfl, by first | assumption | decide | omega⟩
  · replace q1 := q1.resolve_right (fun h => c3 h.1)
    refine g_iload_n (pc' := 9) 3 dX9_both_8 rfl rfl ?_
    refine g_iconst (pc' := 10) dX9_both_9 rfl ?_
    refine g_bipush (pc' := 12) (v := 6) dX9_both_10 rfl (by decide) ?_
    refine g_callSip (pc' := 15) (As := [vi c, vi 0, vi 6]) (S := []) dX9_both_12 rfl m_X9_191 w_X9_isWithin (c_X9_isWithin X M c hc 0 (by decide) 6 (by decide)) rfl (by decide) (by decide) rfl (Nat.le_of_ble_eq_true rfl) (fun z5 q4 => ?_)
    refine g_if_ne (pc' := 18) (tgt := 22) ⟨by omega, by omega⟩ dX9_both_15 rfl rfl (fun c6 => ?_) (fun c6 => ?_)
    · replace q4 := q4.resolve_right (fun h => c6 h.1)
      refine g_iload_n (pc' := 23) 1 dX9_both_22 rfl rfl ?_
      refine g_iload_n (pc' := 24) 2 dX9_both_23 rfl rfl ?_
      refine g_isub (pc' := 25) dX9_both_24 rfl ?_
      refine g_iload_n (pc' := 26) 1 dX9_both_25 rfl rfl ?_
      refine g_iload_n (pc' := 27) 2 dX9_both_26 rfl rfl ?_
      refine g_iadd (pc' := 28) dX9_both_27 rfl ?_
      refine g_iload_n (pc' := 29) 3 dX9_both_28 rfl rfl ?_
      refine g_iload (pc' := 31) 4 dX9_both_29 rfl rfl ?_
      refine g_callSlp (pc' := 34) (As := [vi (a - b), vi (a + b), vi c, vi w]) (S := []) dX9_both_31 rfl m_X9_194 w_X9_powerTerm (c_X9_powerTerm X M (a - b) ⟨by omega, by omega⟩ (a + b) ⟨by omega, by omega⟩ c hc w hw) rfl (by decide) (by decide) rfl (Nat.le_of_ble_eq_true rfl) (fun z8 q7 => ?_)
      refine g_lreturn dX9_both_34 ?_
      exact ⟨rfl, by first | assumption | decide | omega⟩
    · replace q4 := q4.resolve_left (fun h => absurd (c6.symm.trans h.1) (by decide))
      refine g_ldc2 (pc' := 21) (v := (-1)) dX9_both_18 rfl k_X9_104 ?_
      refine g_lreturn dX9_both_21 ?_
      exact ⟨rfl, by first | assumption | decide | omega⟩
set_option maxHeartbeats 4000000 in
set_option maxRecDepth 100000 in
theorem l_X9_rounds_23 (X : Cx) (M : Mm) (hi : IC M) (a : Int) (ha : inI a) (b : Int) (hb : inI b) (c : Int) (hc : inI c) : ∀ (kk : Nat) (i : Int) (h0 : 0 ≤ i) (h1 : i ≤ 7) (k1 : 1 ≤ a ∧ a ≤ 60 ∧ 1 ≤ b ∧ b ≤ a - 1), (7 - i).toNat = kk → G X 10 RX9 cX9_rounds 5 (some .int) (Qi (fun r M1 => M1 = M ∧ (inI r))) 23 [(4, vi i), (0, vr X 0), (1, vi a), (2, vi b), (3, vi c)] [] M := by
  intro kk
  induction kk using Nat.strongRecOn with
  | ind kk ih =>
    intro i h0 h1 k1 hmes
    refine g_iload (pc' := 25) 0 dX9_rounds_23 rfl rfl ?_
    refine g_bipush (pc' := 27) (v := 6) dX9_rounds_25 rfl (by decide) ?_
    refine g_ic_gt (pc' := 30) (tgt := 68) ⟨by omega, by omega⟩ (by decide) dX9_rounds_27 rfl rfl (fun c1 => ?_) (fun c1 => ?_)
    · refine g_iconst (pc' := 69) dX9_rounds_68 rfl ?_
      refine g_ireturn dX9_rounds_69 ?_
      exact ⟨rfl, by first | assumption | decide | omega⟩
    · refine g_ldc2 (pc' := 33) (v := 100) dX9_rounds_30 rfl k_X9_198 ?_
      refine g_iload_n (pc' := 34) 2 dX9_rounds_33 rfl rfl ?_
      refine g_iload_n (pc' := 35) 3 dX9_rounds_34 rfl rfl ?_
      refine g_isub (pc' := 36) dX9_rounds_35 rfl ?_
      refine g_i2l (pc' := 37) ⟨by omega, by omega⟩ dX9_rounds_36 rfl ?_
      refine g_iload (pc' := 39) 0 dX9_rounds_37 rfl rfl ?_
      refine g_callSlp (pc' := 42) (As := [vl (a - b), vi i]) (S := [vl 100]) dX9_rounds_39 rfl m_X9_200 w_X9_power (c_X9_power X M (a - b) ⟨by omega, by omega⟩ i ⟨by omega, by omega⟩) rfl (by decide) (by decide) rfl (Nat.le_of_ble_eq_true rfl) (fun z3 q2 => ?_)
      refine g_lmul (pc' := 43) dX9_rounds_42 rfl ?_
      refine g_nrmL (fun n4 rn4 en4 => ?_)
      refine g_iload_n (pc' := 44) 4 dX9_rounds_43 rfl rfl ?_
      refine g_i2l (pc' := 45) hc dX9_rounds_44 rfl ?_
      refine g_iload_n (pc' := 46) 2 dX9_rounds_45 rfl rfl ?_
      refine g_iload_n (pc' := 47) 3 dX9_rounds_46 rfl rfl ?_
      refine g_iadd (pc' := 48) dX9_rounds_47 rfl ?_
      refine g_i2l (pc' := 49) ⟨by omega, by omega⟩ dX9_rounds_48 rfl ?_
      refine g_iload (pc' := 51) 0 dX9_rounds_49 rfl rfl ?_
      refine g_callSlp (pc' := 54) (As := [vl (a + b), vi i]) (S := [vl c, vl n4]) dX9_rounds_51 rfl m_X9_200 w_X9_power (c_X9_power X M (a + b) ⟨by omega, by omega⟩ i ⟨by omega, by omega⟩) rfl (by decide) (by decide) rfl (Nat.le_of_ble_eq_true rfl) (fun z6 q5 => ?_)
      refine g_lmul (pc' := 55) dX9_rounds_54 rfl ?_
      refine g_nrmL (fun n7 rn7 en7 => ?_)
      refine g_lc_gt (pc' := 59) (tgt := 62) rn4 rn7 dX9_rounds_55 dX9_rounds_56 rfl rfl (fun c8 => ?_) (fun c8 => ?_)
      · refine g_iinc (pc' := 65) (L' := [(4, vi (i + 1)), (0, vr X 0), (1, vi a), (2, vi b), (3, vi c)]) 0 dX9_rounds_62 rfl rfl (by decide) rfl ?_
        refine g_goto (tgt := 23) dX9_rounds_65 rfl ?_
        refine g_sub [0, 1, 2, 3, 4] rfl ?_
        exact ih _ (by omega) (i + 1) (by omega) (by omega) (by omega) rfl
      · refine g_iload (pc' := 61) 0 dX9_rounds_59 rfl rfl ?_
        refine g_ireturn dX9_rounds_61 ?_
        exact ⟨rfl, by first | assumption | decide | omega⟩
set_option maxHeartbeats 4000000 in
set_option maxRecDepth 100000 in
theorem c_X9_rounds (X : Cx) (M : Mm) (hi : IC M) (a : Int) (ha : inI a) (b : Int) (hb : inI b) (c : Int) (hc : inI c) : Con X 10 yX9_rounds cX9_rounds 5 (some .int) [vr X 0, vi a, vi b, vi c] M (Qi (fun r M1 => M1 = M ∧ (inI r))) := by
  refine Con.ofG rfl (Nat.le_of_ble_eq_true rfl) ?_
  show G X 10 RX9 cX9_rounds 5 (some .int) (Qi (fun r M1 => M1 = M ∧ (inI r))) 0 [(0, vr X 0), (1, vi a), (2, vi b), (3, vi c)] [] M
  refine g_iload_n (pc' := 1) 1 dX9_rounds_0 rfl rfl ?_
  refine g_iload_n (pc' := 2) 2 dX9_rounds_1 rfl rfl ?_
  refine g_callSip (pc' := 5) (As := [vi a, vi b]) (S := []) dX9_rounds_2 rfl m_X9_187 w_X9_isBoth (c_X9_isBoth X M a ha b hb) rfl (by decide) (by decide) rfl (Nat.le_of_ble_eq_true rfl) (fun z2 q1 => ?_)
  refine g_if_eq (pc' := 8) (tgt := 18) ⟨by omega, by omega⟩ dX9_rounds_5 rfl rfl (fun c3 => ?_) (fun c3 => ?_)
  · replace q1 := q1.resolve_left (fun h => absurd (c3.symm.trans h.1) (by decide))
    refine g_iconst (pc' := 19) dX9_rounds_18 rfl ?_
    refine g_ireturn dX9_rounds_19 ?_
    exact ⟨rfl, by first | assumption | decide | omega⟩
  · replace q1 := q1.resolve_right (fun h => c3 h.1)
    refine g_iload_n (pc' := 9) 3 dX9_rounds_8 rfl rfl ?_
    refine g_iconst (pc' := 10) dX9_rounds_9 rfl ?_
    refine g_bipush (pc' := 12) (v := 100) dX9_rounds_10 rfl (by decide) ?_
    refine g_callSip (pc' := 15) (As := [vi c, vi 0, vi 100]) (S := []) dX9_rounds_12 rfl m_X9_191 w_X9_isWithin (c_X9_isWithin X M c hc 0 (by decide) 100 (by decide)) rfl (by decide) (by decide) rfl (Nat.le_of_ble_eq_true rfl) (fun z5 q4 => ?_)
    refine g_if_ne (pc' := 18) (tgt := 20) ⟨by omega, by omega⟩ dX9_rounds_15 rfl rfl (fun c6 => ?_) (fun c6 => ?_)
    · replace q4 := q4.resolve_right (fun h => c6 h.1)
      refine g_iconst (pc' := 21) dX9_rounds_20 rfl ?_
      refine g_istore (pc' := 23) (L' := [(4, vi 0), (0, vr X 0), (1, vi a), (2, vi b), (3, vi c)]) dX9_rounds_21 rfl (by decide) rfl ?_
      refine g_sub [0, 1, 2, 3, 4] rfl ?_
      exact l_X9_rounds_23 X M hi a ha b hb c hc _ 0 (by omega) (by omega) (by omega) rfl
    · replace q4 := q4.resolve_left (fun h => absurd (c6.symm.trans h.1) (by decide))
      refine g_iconst (pc' := 19) dX9_rounds_18 rfl ?_
      refine g_ireturn dX9_rounds_19 ?_
      exact ⟨rfl, by first | assumption | decide | omega⟩
set_option maxHeartbeats 4000000 in
set_option maxRecDepth 100000 in
theorem l_X9_guests_23 (X : Cx) (M : Mm) (hi : IC M) (a : Int) (ha : inI a) (b : Int) (hb : inI b) (c : Int) (hc : inI c) : ∀ (kk : Nat) (i : Int) (h0 : 0 ≤ i) (h1 : i ≤ 7) (k1 : 1 ≤ a ∧ a ≤ 60 ∧ 0 ≤ b ∧ b ≤ a), (7 - i).toNat = kk → G X 10 RX9 cX9_guests 5 (some .int) (Qi (fun r M1 => M1 = M ∧ (inI r))) 23 [(4, vi i), (0, vr X 0), (1, vi a), (2, vi b), (3, vi c)] [] M := by
  intro kk
  induction kk using Nat.strongRecOn with
  | ind kk ih =>
    intro i h0 h1 k1 hmes
    refine g_iload (pc' := 25) 0 dX9_guests_23 rfl rfl ?_
    refine g_bipush (pc' := 27) (v := 6) dX9_guests_25 rfl (by decide) ?_
    refine g_ic_gt (pc' := 30) (tgt := 66) ⟨by omega, by omega⟩ (by decide) dX9_guests_27 rfl rfl (fun c1 => ?_) (fun c1 => ?_)
    · refine g_iconst (pc' := 67) dX9_guests_66 rfl ?_
      refine g_ireturn dX9_guests_67 ?_
      exact ⟨rfl, by first | assumption | decide | omega⟩
    · refine g_ldc2 (pc' := 33) (v := 100) dX9_guests_30 rfl k_X9_198 ?_
      refine g_iload_n (pc' := 34) 2 dX9_guests_33 rfl rfl ?_
      refine g_iload_n (pc' := 35) 3 dX9_guests_34 rfl rfl ?_
      refine g_isub (pc' := 36) dX9_guests_35 rfl ?_
      refine g_i2l (pc' := 37) ⟨by omega, by omega⟩ dX9_guests_36 rfl ?_
      refine g_iload (pc' := 39) 0 dX9_guests_37 rfl rfl ?_
      refine g_callSlp (pc' := 42) (As := [vl (a - b), vi i]) (S := [vl 100]) dX9_guests_39 rfl m_X9_200 w_X9_power (c_X9_power X M (a - b) ⟨by omega, by omega⟩ i ⟨by omega, by omega⟩) rfl (by decide) (by decide) rfl (Nat.le_of_ble_eq_true rfl) (fun z3 q2 => ?_)
      refine g_lmul (pc' := 43) dX9_guests_42 rfl ?_
      refine g_nrmL (fun n4 rn4 en4 => ?_)
      refine g_iload_n (pc' := 44) 4 dX9_guests_43 rfl rfl ?_
      refine g_i2l (pc' := 45) hc dX9_guests_44 rfl ?_
      refine g_iload_n (pc' := 46) 2 dX9_guests_45 rfl rfl ?_
      refine g_i2l (pc' := 47) ha dX9_guests_46 rfl ?_
      refine g_iload (pc' := 49) 0 dX9_guests_47 rfl rfl ?_
      refine g_callSlp (pc' := 52) (As := [vl a, vi i]) (S := [vl c, vl n4]) dX9_guests_49 rfl m_X9_200 w_X9_power (c_X9_power X M a ⟨by omega, by omega⟩ i ⟨by omega, by omega⟩) rfl (by decide) (by decide) rfl (Nat.le_of_ble_eq_true rfl) (fun z6 q5 => ?_)
      refine g_lmul (pc' := 53) dX9_guests_52 rfl ?_
      refine g_nrmL (fun n7 rn7 en7 => ?_)
      refine g_lc_ge (pc' := 57) (tgt := 60) rn4 rn7 dX9_guests_53 dX9_guests_54 rfl rfl (fun c8 => ?_) (fun c8 => ?_)
      · refine g_iinc (pc' := 63) (L' := [(4, vi (i + 1)), (0, vr X 0), (1, vi a), (2, vi b), (3, vi c)]) 0 dX9_guests_60 rfl rfl (by decide) rfl ?_
        refine g_goto (tgt := 23) dX9_guests_63 rfl ?_
        refine g_sub [0, 1, 2, 3, 4] rfl ?_
        exact ih _ (by omega) (i + 1) (by omega) (by omega) (by omega) rfl
      · refine g_iload (pc' := 59) 0 dX9_guests_57 rfl rfl ?_
        refine g_ireturn dX9_guests_59 ?_
        exact ⟨rfl, by first | assumption | decide | omega⟩
set_option maxHeartbeats 4000000 in
set_option maxRecDepth 100000 in
theorem c_X9_guests (X : Cx) (M : Mm) (hi : IC M) (a : Int) (ha : inI a) (b : Int) (hb : inI b) (c : Int) (hc : inI c) : Con X 10 yX9_guests cX9_guests 5 (some .int) [vr X 0, vi a, vi b, vi c] M (Qi (fun r M1 => M1 = M ∧ (inI r))) := by
  refine Con.ofG rfl (Nat.le_of_ble_eq_true rfl) ?_
  show G X 10 RX9 cX9_guests 5 (some .int) (Qi (fun r M1 => M1 = M ∧ (inI r))) 0 [(0, vr X 0), (1, vi a), (2, vi b), (3, vi c)] [] M
  refine g_iload_n (pc' := 1) 1 dX9_guests_0 rfl rfl ?_
  refine g_iload_n (pc' := 2) 2 dX9_guests_1 rfl rfl ?_
  refine g_callSip (pc' := 5) (As := [vi a, vi b]) (S := []) dX9_guests_2 rfl m_X9_237 w_X9_isCask (c_X9_isCask X M a ha b hb) rfl (by decide) (by decide) rfl (Nat.le_of_ble_eq_true rfl) (fun z2 q1 => ?_)
  refine g_if_eq (pc' := 8) (tgt := 18) ⟨by omega, by omega⟩ dX9_guests_5 rfl rfl (fun c3 => ?_) (fun c3 => ?_)
  · replace q1 := q1.resolve_left (fun h => absurd (c3.symm.trans h.1) (by decide))
    refine g_iconst (pc' := 19) dX9_guests_18 rfl ?_
    refine g_ireturn dX9_guests_19 ?_
    exact ⟨rfl, by first | assumption | decide | omega⟩
  · replace q1 := q1.resolve_right (fun h => c3 h.1)
    refine g_iload_n (pc' := 9) 3 dX9_guests_8 rfl rfl ?_
    refine g_iconst (pc' := 10) dX9_guests_9 rfl ?_
    refine g_bipush (pc' := 12) (v := 100) dX9_guests_10 rfl (by decide) ?_
    refine g_callSip (pc' := 15) (As := [vi c, vi 0, vi 100]) (S := []) dX9_guests_12 rfl m_X9_191 w_X9_isWithin (c_X9_isWithin X M c hc 0 (by decide) 100 (by decide)) rfl (by decide) (by decide) rfl (Nat.le_of_ble_eq_true rfl) (fun z5 q4 => ?_)
    refine g_if_ne (pc' := 18) (tgt := 20) ⟨by omega, by omega⟩ dX9_guests_15 rfl rfl (fun c6 => ?_) (fun c6 => ?_)
    · replace q4 := q4.resolve_right (fun h => c6 h.1)
      refine g_iconst (pc' := 21) dX9_guests_20 rfl ?_
      refine g_istore (pc' := 23) (L' := [(4, vi 0), (0, vr X 0), (1, vi a), (2, vi b), (3, vi c)]) dX9_guests_21 rfl (by decide) rfl ?_
      refine g_sub [0, 1, 2, 3, 4] rfl ?_
      exact l_X9_guests_23 X M hi a ha b hb c hc _ 0 (by omega) (by omega) (by omega) rfl
    · replace q4 := q4.resolve_left (fun h => absurd (c6.symm.trans h.1) (by decide))
      refine g_iconst (pc' := 19) dX9_guests_18 rfl ?_
      refine g_ireturn dX9_guests_19 ?_
      exact ⟨rfl, by first | assumption | decide | omega⟩
set_option maxHeartbeats 4000000 in
set_option maxRecDepth 100000 in
theorem c_X9_cask (X : Cx) (M : Mm) (hi : IC M) (a : Int) (ha : inI a) (b : Int) (hb : inI b) (c : Int) (hc : inI c) (w : Int) (hw : inI w) : Con X 10 yX9_cask cX9_cask 5 (some .long) [vr X 0, vi a, vi b, vi c, vi w] M (Ql (fun r M1 => M1 = M ∧ (inL r))) := by
  refine Con.ofG rfl (Nat.le_of_ble_eq_true rfl) ?_
  show G X 10 RX9 cX9_cask 5 (some .long) (Ql (fun r M1 => M1 = M ∧ (inL r))) 0 [(0, vr X 0), (1, vi a), (2, vi b), (3, vi c), (4, vi w)] [] M
  refine g_iload_n (pc' := 1) 1 dX9_cask_0 rfl rfl ?_
  refine g_iload_n (pc' := 2) 2 dX9_cask_1 rfl rfl ?_
  refine g_callSip (pc' := 5) (As := [vi a, vi b]) (S := []) dX9_cask_2 rfl m_X9_237 w_X9_isCask (c_X9_isCask X M a ha b hb) rfl (by decide) (by decide) rfl (Nat.le_of_ble_eq_true rfl) (fun z2 q1 => ?_)
  refine g_if_eq (pc' := 8) (tgt := 18) ⟨by omega, by omega⟩ dX9_cask_5 rfl rfl (fun c3 => ?_) (fun c3 => ?_)
  · replace q1 := q1.resolve_left (fun h => absurd (c3.symm.trans h.1) (by decide))
    refine g_ldc2 (pc' := 21) (v := (-1)) dX9_cask_18 rfl k_X9_104 ?_
    refine g_lreturn dX9_cask_21 ?_
    exact ⟨rfl, by first | assumption | decide | omega⟩
  · replace q1 := q1.resolve_right (fun h => c3 h.1)
    refine g_iload_n (pc' := 9) 3 dX9_cask_8 rfl rfl ?_
    refine g_iconst (pc' := 10) dX9_cask_9 rfl ?_
    refine g_bipush (pc' := 12) (v := 6) dX9_cask_10 rfl (by decide) ?_
    refine g_callSip (pc' := 15) (As := [vi c, vi 0, vi 6]) (S := []) dX9_cask_12 rfl m_X9_191 w_X9_isWithin (c_X9_isWithin X M c hc 0 (by decide) 6 (by decide)) rfl (by decide) (by decide) rfl (Nat.le_of_ble_eq_true rfl) (fun z5 q4 => ?_)
    refine g_if_ne (pc' := 18) (tgt := 22) ⟨by omega, by omega⟩ dX9_cask_15 rfl rfl (fun c6 => ?_) (fun c6 => ?_)
    · replace q4 := q4.resolve_right (fun h => c6 h.1)
      refine g_iload_n (pc' := 23) 1 dX9_cask_22 rfl rfl ?_
      refine g_iload_n (pc' := 24) 2 dX9_cask_23 rfl rfl ?_
      refine g_isub (pc' := 25) dX9_cask_24 rfl ?_
      refine g_iload_n (pc' := 26) 1 dX9_cask_25 rfl rfl ?_
      refine g_iload_n (pc' := 27) 3 dX9_cask_26 rfl rfl ?_
      refine g_iload (pc' := 29) 4 dX9_cask_27 rfl rfl ?_
      refine g_callSlp (pc' := 32) (As := [vi (a - b), vi a, vi c, vi w]) (S := []) dX9_cask_29 rfl m_X9_194 w_X9_powerTerm (c_X9_powerTerm X M (a - b) ⟨by omega, by omega⟩ a ha c hc w hw) rfl (by decide) (by decide) rfl (Nat.le_of_ble_eq_true rfl) (fun z8 q7 => ?_)
      refine g_lreturn dX9_cask_32 ?_
      exact ⟨rfl, by first | assumption | decide | omega⟩
    · replace q4 := q4.resolve_left (fun h => absurd (c6.symm.trans h.1) (by decide))
      refine g_ldc2 (pc' := 21) (v := (-1)) dX9_cask_18 rfl k_X9_104 ?_
      refine g_lreturn dX9_cask_21 ?_
      exact ⟨rfl, by first | assumption | decide | omega⟩
set_option maxHeartbeats 4000000 in
set_option maxRecDepth 100000 in
theorem c_X9_rinse (X : Cx) (M : Mm) (hi : IC M) (a : Int) (ha : inI a) (b : Int) (hb : inI b) (c : Int) (hc : inI c) (w : Int) (hw : inI w) : Con X 10 yX9_rinse cX9_rinse 11 (some .long) [vr X 0, vi a, vi b, vi c, vi w] M (Ql (fun r M1 => M1 = M ∧ (inL r))) := by
  refine Con.ofG rfl (Nat.le_of_ble_eq_true rfl) ?_
  show G X 10 RX9 cX9_rinse 11 (some .long) (Ql (fun r M1 => M1 = M ∧ (inL r))) 0 [(0, vr X 0), (1, vi a), (2, vi b), (3, vi c), (4, vi w)] [] M
  refine g_iload_n (pc' := 1) 1 dX9_rinse_0 rfl rfl ?_
  refine g_iconst (pc' := 2) dX9_rinse_1 rfl ?_
  refine g_bipush (pc' := 4) (v := 9) dX9_rinse_2 rfl (by decide) ?_
  refine g_callSip (pc' := 7) (As := [vi a, vi 1, vi 9]) (S := []) dX9_rinse_4 rfl m_X9_191 w_X9_isWithin (c_X9_isWithin X M a ha 1 (by decide) 9 (by decide)) rfl (by decide) (by decide) rfl (Nat.le_of_ble_eq_true rfl) (fun z2 q1 => ?_)
  refine g_if_eq (pc' := 10) (tgt := 20) ⟨by omega, by omega⟩ dX9_rinse_7 rfl rfl (fun c3 => ?_) (fun c3 => ?_)
  · replace q1 := q1.resolve_left (fun h => absurd (c3.symm.trans h.1) (by decide))
    refine g_ldc2 (pc' := 23) (v := (-1)) dX9_rinse_20 rfl k_X9_104 ?_
    refine g_lreturn dX9_rinse_23 ?_
    exact ⟨rfl, by first | assumption | decide | omega⟩
  · replace q1 := q1.resolve_right (fun h => c3 h.1)
    refine g_iload_n (pc' := 11) 2 dX9_rinse_10 rfl rfl ?_
    refine g_iconst (pc' := 12) dX9_rinse_11 rfl ?_
    refine g_bipush (pc' := 14) (v := 60) dX9_rinse_12 rfl (by decide) ?_
    refine g_callSip (pc' := 17) (As := [vi b, vi 0, vi 60]) (S := []) dX9_rinse_14 rfl m_X9_191 w_X9_isWithin (c_X9_isWithin X M b hb 0 (by decide) 60 (by decide)) rfl (by decide) (by decide) rfl (Nat.le_of_ble_eq_true rfl) (fun z5 q4 => ?_)
    refine g_if_ne (pc' := 20) (tgt := 24) ⟨by omega, by omega⟩ dX9_rinse_17 rfl rfl (fun c6 => ?_) (fun c6 => ?_)
    · replace q4 := q4.resolve_right (fun h => c6 h.1)
      refine g_iload_n (pc' := 25) 3 dX9_rinse_24 rfl rfl ?_
      refine g_iconst (pc' := 26) dX9_rinse_25 rfl ?_
      refine g_ic_lt (pc' := 29) (tgt := 47) hc (by decide) dX9_rinse_26 rfl rfl (fun c7 => ?_) (fun c7 => ?_)
      · refine g_ldc2 (pc' := 50) (v := (-1)) dX9_rinse_47 rfl k_X9_104 ?_
        refine g_lreturn dX9_rinse_50 ?_
        exact ⟨rfl, by first | assumption | decide | omega⟩
      · refine g_iload_n (pc' := 30) 3 dX9_rinse_29 rfl rfl ?_
        refine g_bipush (pc' := 32) (v := 6) dX9_rinse_30 rfl (by decide) ?_
        refine g_ic_gt (pc' := 35) (tgt := 47) hc (by decide) dX9_rinse_32 rfl rfl (fun c8 => ?_) (fun c8 => ?_)
        · refine g_ldc2 (pc' := 50) (v := (-1)) dX9_rinse_47 rfl k_X9_104 ?_
          refine g_lreturn dX9_rinse_50 ?_
          exact ⟨rfl, by first | assumption | decide | omega⟩
        · refine g_iload (pc' := 37) 4 dX9_rinse_35 rfl rfl ?_
          refine g_iconst (pc' := 38) dX9_rinse_37 rfl ?_
          refine g_iconst (pc' := 39) dX9_rinse_38 rfl ?_
          refine g_iload_n (pc' := 40) 3 dX9_rinse_39 rfl rfl ?_
          refine g_iadd (pc' := 41) dX9_rinse_40 rfl ?_
          refine g_callSip (pc' := 44) (As := [vi w, vi 0, vi (1 + c)]) (S := []) dX9_rinse_41 rfl m_X9_191 w_X9_isWithin (c_X9_isWithin X M w hw 0 (by decide) (1 + c) ⟨by omega, by omega⟩) rfl (by decide) (by decide) rfl (Nat.le_of_ble_eq_true rfl) (fun z10 q9 => ?_)
          refine g_if_ne (pc' := 47) (tgt := 51) ⟨by omega, by omega⟩ dX9_rinse_44 rfl rfl (fun c11 => ?_) (fun c11 => ?_)
          · replace q9 := q9.resolve_right (fun h => c11 h.1)
            refine g_iload_n (pc' := 52) 2 dX9_rinse_51 rfl rfl ?_
            refine g_iload_n (pc' := 53) 3 dX9_rinse_52 rfl rfl ?_
            refine g_idiv (pc' := 54) hb hc (by omega) dX9_rinse_53 rfl ?_
            refine g_nrmI (fun n12 rn12 en12 => ?_)
            have bn12 : (-2147483648 ≤ b.tdiv c ∧ b.tdiv c ≤ 2147483647) → n12 = b.tdiv c := fun h => en12.trans (bm32 h)
            refine g_istore (pc' := 56) (L' := [(5, vi n12), (0, vr X 0), (1, vi a), (2, vi b), (3, vi c), (4, vi w)]) dX9_rinse_54 rfl (by decide) rfl ?_
            refine g_iload_n (pc' := 57) 3 dX9_rinse_56 rfl rfl ?_
            refine g_iload_n (pc' := 58) 4 dX9_rinse_57 rfl rfl ?_
            refine g_irem (pc' := 59) hb hc (by omega) dX9_rinse_58 rfl ?_
            refine g_nrmI (fun n13 rn13 en13 => ?_)
            have bn13 : (-2147483648 ≤ b.tmod c ∧ b.tmod c ≤ 2147483647) → n13 = b.tmod c := fun h => en13.trans (bm32 h)
            refine g_istore (pc' := 61) (L' := [(6, vi n13), (5, vi n12), (0, vr X 0), (1, vi a), (2, vi b), (3, vi c), (4, vi w)]) dX9_rinse_59 rfl (by decide) rfl ?_
            refine g_iload (pc' := 63) 6 dX9_rinse_61 rfl rfl ?_
            refine g_iconst (pc' := 64) dX9_rinse_63 rfl ?_
            refine g_ic_lt (pc' := 67) (tgt := 90) hw (by decide) dX9_rinse_64 rfl rfl (fun c14 => ?_) (fun c14 => ?_)
            · refine g_iload_n (pc' := 91) 3 dX9_rinse_90 rfl rfl ?_
              refine g_i2l (pc' := 92) ha dX9_rinse_91 rfl ?_
              refine g_iload_n (pc' := 93) 5 dX9_rinse_92 rfl rfl ?_
              refine g_callSlp (pc' := 96) (As := [vl a, vi c]) (S := []) dX9_rinse_93 rfl m_X9_200 w_X9_power (c_X9_power X M a ⟨by omega, by omega⟩ c hc) rfl (by decide) (by decide) rfl (Nat.le_of_ble_eq_true rfl) (fun z16 q15 => ?_)
              refine g_lstore (pc' := 98) (L' := [(7, vl z16), (6, vi n13), (5, vi n12), (0, vr X 0), (1, vi a), (2, vi b), (3, vi c), (4, vi w)]) dX9_rinse_96 rfl (by decide) rfl ?_
              refine g_iload_n (pc' := 99) 4 dX9_rinse_98 rfl rfl ?_
              refine g_iload (pc' := 101) 2 dX9_rinse_99 rfl rfl ?_
              refine g_iadd (pc' := 102) dX9_rinse_101 rfl ?_
              refine g_nrmI (fun n17 rn17 en17 => ?_)
              have bn17 : (-2147483648 ≤ a + n12 ∧ a + n12 ≤ 2147483647) → n17 = a + n12 := fun h => en17.trans (bm32 h)
              refine g_i2l (pc' := 103) rn17 dX9_rinse_102 rfl ?_
              refine g_iload_n (pc' := 104) 6 dX9_rinse_103 rfl rfl ?_
              refine g_iload (pc' := 106) 1 dX9_rinse_104 rfl rfl ?_
              refine g_isub (pc' := 107) dX9_rinse_106 rfl ?_
              refine g_nrmI (fun n18 rn18 en18 => ?_)
              have bn18 : (-2147483648 ≤ c - n13 ∧ c - n13 ≤ 2147483647) → n18 = c - n13 := fun h => en18.trans (bm32 h)
              refine g_callSlp (pc' := 110) (As := [vl n17, vi n18]) (S := []) dX9_rinse_107 rfl m_X9_200 w_X9_power (c_X9_power X M n17 ⟨by omega, by omega⟩ n18 rn18) rfl (by decide) (by decide) rfl (Nat.le_of_ble_eq_true rfl) (fun z20 q19 => ?_)
              refine g_iload_n (pc' := 111) 4 dX9_rinse_110 rfl rfl ?_
              refine g_iload (pc' := 113) 2 dX9_rinse_111 rfl rfl ?_
              refine g_iadd (pc' := 114) dX9_rinse_113 rfl ?_
              refine g_nrmI (fun n21 rn21 en21 => ?_)
              have bn21 : (-2147483648 ≤ a + n12 ∧ a + n12 ≤ 2147483647) → n21 = a + n12 := fun h => en21.trans (bm32 h)
              refine g_iconst (pc' := 115) dX9_rinse_114 rfl ?_
              refine g_iadd (pc' := 116) dX9_rinse_115 rfl ?_
              refine g_nrmI (fun n22 rn22 en22 => ?_)
              have bn22 : (-2147483648 ≤ n21 + 1 ∧ n21 + 1 ≤ 2147483647) → n22 = n21 + 1 := fun h => en22.trans (bm32 h)
              refine g_i2l (pc' := 117) rn22 dX9_rinse_116 rfl ?_
              refine g_iload (pc' := 119) 1 dX9_rinse_117 rfl rfl ?_
              refine g_callSlp (pc' := 122) (As := [vl n22, vi n13]) (S := [vl z20]) dX9_rinse_119 rfl m_X9_200 w_X9_power (c_X9_power X M n22 ⟨by omega, by omega⟩ n13 rn13) rfl (by decide) (by decide) rfl (Nat.le_of_ble_eq_true rfl) (fun z24 q23 => ?_)
              refine g_lmul (pc' := 123) dX9_rinse_122 rfl ?_
              refine g_nrmL (fun n25 rn25 en25 => ?_)
              refine g_lstore (pc' := 125) (L' := [(9, vl n25), (7, vl z16), (6, vi n13), (5, vi n12), (0, vr X 0), (1, vi a), (2, vi b), (3, vi c), (4, vi w)]) dX9_rinse_123 rfl (by decide) rfl ?_
              refine g_lload (pc' := 127) 1 dX9_rinse_125 rfl rfl ?_
              refine g_lload (pc' := 129) 0 dX9_rinse_127 rfl rfl ?_
              refine g_iload (pc' := 131) 8 dX9_rinse_129 rfl rfl ?_
              refine g_callSlp (pc' := 134) (As := [vl z16, vl n25, vi w]) (S := []) dX9_rinse_131 rfl m_X9_240 w_X9_lowestTerm (c_X9_lowestTerm X M z16 ⟨by omega, by omega⟩ n25 rn25 w hw) rfl (by decide) (by decide) rfl (Nat.le_of_ble_eq_true rfl) (fun z27 q26 => ?_)
              refine g_lreturn dX9_rinse_134 ?_
              exact ⟨rfl, by first | assumption | decide | omega⟩
            · refine g_iload (pc' := 69) 6 dX9_rinse_67 rfl rfl ?_
              refine g_iconst (pc' := 70) dX9_rinse_69 rfl ?_
              refine g_isub (pc' := 71) dX9_rinse_70 rfl ?_
              refine g_iload_n (pc' := 72) 5 dX9_rinse_71 rfl rfl ?_
              refine g_iload (pc' := 74) 0 dX9_rinse_72 rfl rfl ?_
              refine g_isub (pc' := 75) dX9_rinse_74 rfl ?_
              refine g_nrmI (fun n28 rn28 en28 => ?_)
              have bn28 : (-2147483648 ≤ c - n13 ∧ c - n13 ≤ 2147483647) → n28 = c - n13 := fun h => en28.trans (bm32 h)
              refine g_ic_ge (pc' := 78) (tgt := 84) ⟨by omega, by omega⟩ rn28 dX9_rinse_75 rfl rfl (fun c29 => ?_) (fun c29 => ?_)
              · refine g_iload (pc' := 86) 1 dX9_rinse_84 rfl rfl ?_
                refine g_iconst (pc' := 87) dX9_rinse_86 rfl ?_
                refine g_iadd (pc' := 88) dX9_rinse_87 rfl ?_
                refine g_nrmI (fun n30 rn30 en30 => ?_)
                have bn30 : (-2147483648 ≤ n12 + 1 ∧ n12 + 1 ≤ 2147483647) → n30 = n12 + 1 := fun h => en30.trans (bm32 h)
                refine g_i2l (pc' := 89) rn30 dX9_rinse_88 rfl ?_
                refine g_lreturn dX9_rinse_89 ?_
                exact ⟨rfl, by first | assumption | decide | omega⟩
              · refine g_iload (pc' := 80) 1 dX9_rinse_78 rfl rfl ?_
                refine g_i2l (pc' := 81) rn12 dX9_rinse_80 rfl ?_
                refine g_goto (tgt := 89) dX9_rinse_81 rfl ?_
                refine g_lreturn dX9_rinse_89 ?_
                exact ⟨rfl, by first | assumption | decide | omega⟩
          · replace q9 := q9.resolve_left (fun h => absurd (c11.symm.trans h.1) (by decide))
            refine g_ldc2 (pc' := 50) (v := (-1)) dX9_rinse_47 rfl k_X9_104 ?_
            refine g_lreturn dX9_rinse_50 ?_
            exact ⟨rfl, by first | assumption | decide | omega⟩
    · replace q4 := q4.resolve_left (fun h => absurd (c6.symm.trans h.1) (by decide))
      refine g_ldc2 (pc' := 23) (v := (-1)) dX9_rinse_20 rfl k_X9_104 ?_
      refine g_lreturn dX9_rinse_23 ?_
      exact ⟨rfl, by first | assumption | decide | omega⟩
set_option maxHeartbeats 4000000 in
set_option maxRecDepth 100000 in
theorem c_X9_cards (X : Cx) (M : Mm) (hi : IC M) (a : Int) (ha : inI a) (b : Int) (hb : inI b) (c : Int) (hc : inI c) (j : Int) (hj : inI j) (w : Int) (hw : inI w) : Con X 10 yX9_cards cX9_cards 8 (some .long) [vr X 0, vi a, vi b, vi c, vi j, vi w] M (Ql (fun r M1 => M1 = M ∧ (inL r))) := by
  refine Con.ofG rfl (Nat.le_of_ble_eq_true rfl) ?_
  show G X 10 RX9 cX9_cards 8 (some .long) (Ql (fun r M1 => M1 = M ∧ (inL r))) 0 [(0, vr X 0), (1, vi a), (2, vi b), (3, vi c), (4, vi j), (5, vi w)] [] M
  refine g_iload_n (pc' := 1) 1 dX9_cards_0 rfl rfl ?_
  refine g_iconst (pc' := 2) dX9_cards_1 rfl ?_
  refine g_bipush (pc' := 4) (v := 20) dX9_cards_2 rfl (by decide) ?_
  refine g_callSip (pc' := 7) (As := [vi a, vi 0, vi 20]) (S := []) dX9_cards_4 rfl m_X9_191 w_X9_isWithin (c_X9_isWithin X M a ha 0 (by decide) 20 (by decide)) rfl (by decide) (by decide) rfl (Nat.le_of_ble_eq_true rfl) (fun z2 q1 => ?_)
  refine g_if_eq (pc' := 10) (tgt := 20) ⟨by omega, by omega⟩ dX9_cards_7 rfl rfl (fun c3 => ?_) (fun c3 => ?_)
  · replace q1 := q1.resolve_left (fun h => absurd (c3.symm.trans h.1) (by decide))
    refine g_ldc2 (pc' := 23) (v := (-1)) dX9_cards_20 rfl k_X9_104 ?_
    refine g_lreturn dX9_cards_23 ?_
    exact ⟨rfl, by first | assumption | decide | omega⟩
  · replace q1 := q1.resolve_right (fun h => c3 h.1)
    refine g_iload_n (pc' := 11) 2 dX9_cards_10 rfl rfl ?_
    refine g_iconst (pc' := 12) dX9_cards_11 rfl ?_
    refine g_bipush (pc' := 14) (v := 20) dX9_cards_12 rfl (by decide) ?_
    refine g_callSip (pc' := 17) (As := [vi b, vi 0, vi 20]) (S := []) dX9_cards_14 rfl m_X9_191 w_X9_isWithin (c_X9_isWithin X M b hb 0 (by decide) 20 (by decide)) rfl (by decide) (by decide) rfl (Nat.le_of_ble_eq_true rfl) (fun z5 q4 => ?_)
    refine g_if_ne (pc' := 20) (tgt := 24) ⟨by omega, by omega⟩ dX9_cards_17 rfl rfl (fun c6 => ?_) (fun c6 => ?_)
    · replace q4 := q4.resolve_right (fun h => c6 h.1)
      refine g_iload_n (pc' := 25) 3 dX9_cards_24 rfl rfl ?_
      refine g_iconst (pc' := 26) dX9_cards_25 rfl ?_
      refine g_iload_n (pc' := 27) 1 dX9_cards_26 rfl rfl ?_
      refine g_callSip (pc' := 30) (As := [vi c, vi 0, vi a]) (S := []) dX9_cards_27 rfl m_X9_191 w_X9_isWithin (c_X9_isWithin X M c hc 0 (by decide) a ha) rfl (by decide) (by decide) rfl (Nat.le_of_ble_eq_true rfl) (fun z8 q7 => ?_)
      refine g_if_eq (pc' := 33) (tgt := 53) ⟨by omega, by omega⟩ dX9_cards_30 rfl rfl (fun c9 => ?_) (fun c9 => ?_)
      · replace q7 := q7.resolve_left (fun h => absurd (c9.symm.trans h.1) (by decide))
        refine g_ldc2 (pc' := 56) (v := (-1)) dX9_cards_53 rfl k_X9_104 ?_
        refine g_lreturn dX9_cards_56 ?_
        exact ⟨rfl, by first | assumption | decide | omega⟩
      · replace q7 := q7.resolve_right (fun h => c9 h.1)
        refine g_iload (pc' := 35) 4 dX9_cards_33 rfl rfl ?_
        refine g_iconst (pc' := 36) dX9_cards_35 rfl ?_
        refine g_iload_n (pc' := 37) 3 dX9_cards_36 rfl rfl ?_
        refine g_callSip (pc' := 40) (As := [vi j, vi 0, vi c]) (S := []) dX9_cards_37 rfl m_X9_191 w_X9_isWithin (c_X9_isWithin X M j hj 0 (by decide) c hc) rfl (by decide) (by decide) rfl (Nat.le_of_ble_eq_true rfl) (fun z11 q10 => ?_)
        refine g_if_eq (pc' := 43) (tgt := 53) ⟨by omega, by omega⟩ dX9_cards_40 rfl rfl (fun c12 => ?_) (fun c12 => ?_)
        · replace q10 := q10.resolve_left (fun h => absurd (c12.symm.trans h.1) (by decide))
          refine g_ldc2 (pc' := 56) (v := (-1)) dX9_cards_53 rfl k_X9_104 ?_
          refine g_lreturn dX9_cards_56 ?_
          exact ⟨rfl, by first | assumption | decide | omega⟩
        · replace q10 := q10.resolve_right (fun h => c12 h.1)
          refine g_iload (pc' := 45) 5 dX9_cards_43 rfl rfl ?_
          refine g_iconst (pc' := 46) dX9_cards_45 rfl ?_
          refine g_iconst (pc' := 47) dX9_cards_46 rfl ?_
          refine g_callSip (pc' := 50) (As := [vi w, vi 0, vi 1]) (S := []) dX9_cards_47 rfl m_X9_191 w_X9_isWithin (c_X9_isWithin X M w hw 0 (by decide) 1 (by decide)) rfl (by decide) (by decide) rfl (Nat.le_of_ble_eq_true rfl) (fun z14 q13 => ?_)
          refine g_if_ne (pc' := 53) (tgt := 57) ⟨by omega, by omega⟩ dX9_cards_50 rfl rfl (fun c15 => ?_) (fun c15 => ?_)
          · replace q13 := q13.resolve_right (fun h => c15 h.1)
            refine g_iload_n (pc' := 58) 1 dX9_cards_57 rfl rfl ?_
            refine g_iload_n (pc' := 59) 3 dX9_cards_58 rfl rfl ?_
            refine g_callSlp (pc' := 62) (As := [vi a, vi c]) (S := []) dX9_cards_59 rfl m_X9_263 w_X9_choices (c_X9_choices X M a ha c hc (by omega) (by omega)) rfl (by decide) (by decide) rfl (Nat.le_of_ble_eq_true rfl) (fun z17 q16 => ?_)
            refine g_lstore (pc' := 64) (L' := [(6, vl z17), (0, vr X 0), (1, vi a), (2, vi b), (3, vi c), (4, vi j), (5, vi w)]) dX9_cards_62 rfl (by decide) rfl ?_
            refine g_iload (pc' := 66) 6 dX9_cards_64 rfl rfl ?_
            refine g_iconst (pc' := 67) dX9_cards_66 rfl ?_
            refine g_ic_ne (pc' := 70) (tgt := 81) hw (by decide) dX9_cards_67 rfl rfl (fun c18 => ?_) (fun c18 => ?_)
            · refine g_lload (pc' := 83) 0 dX9_cards_81 rfl rfl ?_
              refine g_iload_n (pc' := 84) 4 dX9_cards_83 rfl rfl ?_
              refine g_iload (pc' := 86) 5 dX9_cards_84 rfl rfl ?_
              refine g_callSlp (pc' := 89) (As := [vi c, vi j]) (S := [vl z17]) dX9_cards_86 rfl m_X9_263 w_X9_choices (c_X9_choices X M c hc j hj (by omega) (by omega)) rfl (by decide) (by decide) rfl (Nat.le_of_ble_eq_true rfl) (fun z20 q19 => ?_)
              refine g_lmul (pc' := 90) dX9_cards_89 rfl ?_
              refine g_nrmL (fun n21 rn21 en21 => ?_)
              refine g_iload_n (pc' := 91) 3 dX9_cards_90 rfl rfl ?_
              refine g_iload (pc' := 93) 5 dX9_cards_91 rfl rfl ?_
              refine g_callSlp (pc' := 96) (As := [vi b, vi j]) (S := [vl n21]) dX9_cards_93 rfl m_X9_263 w_X9_choices (c_X9_choices X M b hb j hj (by omega) (by omega)) rfl (by decide) (by decide) rfl (Nat.le_of_ble_eq_true rfl) (fun z23 q22 => ?_)
              refine g_lmul (pc' := 97) dX9_cards_96 rfl ?_
              refine g_nrmL (fun n24 rn24 en24 => ?_)
              refine g_lreturn dX9_cards_97 ?_
              exact ⟨rfl, by first | assumption | decide | omega⟩
            · refine g_lload (pc' := 72) 0 dX9_cards_70 rfl rfl ?_
              refine g_iload_n (pc' := 73) 3 dX9_cards_72 rfl rfl ?_
              refine g_iload_n (pc' := 74) 4 dX9_cards_73 rfl rfl ?_
              refine g_iadd (pc' := 75) dX9_cards_74 rfl ?_
              refine g_iload_n (pc' := 76) 4 dX9_cards_75 rfl rfl ?_
              refine g_callSlp (pc' := 79) (As := [vi (b + c), vi c]) (S := [vl z17]) dX9_cards_76 rfl m_X9_263 w_X9_choices (c_X9_choices X M (b + c) ⟨by omega, by omega⟩ c hc (by omega) (by omega)) rfl (by decide) (by decide) rfl (Nat.le_of_ble_eq_true rfl) (fun z26 q25 => ?_)
              refine g_lmul (pc' := 80) dX9_cards_79 rfl ?_
              refine g_nrmL (fun n27 rn27 en27 => ?_)
              refine g_lreturn dX9_cards_80 ?_
              exact ⟨rfl, by first | assumption | decide | omega⟩
          · replace q13 := q13.resolve_left (fun h => absurd (c15.symm.trans h.1) (by decide))
            refine g_ldc2 (pc' := 56) (v := (-1)) dX9_cards_53 rfl k_X9_104 ?_
            refine g_lreturn dX9_cards_56 ?_
            exact ⟨rfl, by first | assumption | decide | omega⟩
    · replace q4 := q4.resolve_left (fun h => absurd (c6.symm.trans h.1) (by decide))
      refine g_ldc2 (pc' := 23) (v := (-1)) dX9_cards_20 rfl k_X9_104 ?_
      refine g_lreturn dX9_cards_23 ?_
      exact ⟨rfl, by first | assumption | decide | omega⟩
set_option maxHeartbeats 4000000 in
set_option maxRecDepth 100000 in
theorem c_X9_count (X : Cx) (M : Mm) (hi : IC M) (a : Int) (ha : inI a) : Con X 10 yX9_count cX9_count 2 (some .int) [vr X 0, vi a] M (Qi (fun r M1 => M1 = M ∧ (inI r))) := by
  refine Con.ofG rfl (Nat.le_of_ble_eq_true rfl) ?_
  show G X 10 RX9 cX9_count 2 (some .int) (Qi (fun r M1 => M1 = M ∧ (inI r))) 0 [(0, vr X 0), (1, vi a)] [] M
  refine g_iload_n (pc' := 1) 1 dX9_count_0 rfl rfl ?_
  by_cases c1 : a = 0
  · refine g_tabIn (tgt := 36) (off := 35) ha dX9_count_1 (by omega) (by omega) (by rw [c1]; rfl) rfl ?_
    refine g_aload_n (pc' := 37) 0 dX9_count_36 rfl rfl ?_
    refine g_getR (pc' := 40) dX9_count_37 rfl f_X9_12 rfl rfl ?_
    refine g_getR (pc' := 43) dX9_count_40 rfl f_X9_86 rfl rfl ?_
    refine g_getI (pc' := 46) dX9_count_43 rfl f_X9_274 rfl rfl (fun v2 ev2 rv2 => ?_)
    have bv2 : 0 ≤ v2 ∧ v2 ≤ 6 := by rw [ev2]; exact ⟨(hi.1 2 isT_2).1, (hi.1 2 isT_2).2.1⟩
    refine g_ireturn dX9_count_46 ?_
    exact ⟨rfl, by first | assumption | decide | omega⟩
  by_cases c3 : a = 1
  · refine g_tabIn (tgt := 47) (off := 46) ha dX9_count_1 (by omega) (by omega) (by rw [c3]; rfl) rfl ?_
    refine g_aload_n (pc' := 48) 0 dX9_count_47 rfl rfl ?_
    refine g_getR (pc' := 51) dX9_count_48 rfl f_X9_12 rfl rfl ?_
    refine g_getI (pc' := 54) dX9_count_51 rfl f_X9_207 rfl rfl (fun v4 ev4 rv4 => ?_)
    have bv4 : 0 ≤ v4 ∧ v4 ≤ 3 := by rw [ev4]; exact hi.2.1.1.1
    refine g_ireturn dX9_count_54 ?_
    exact ⟨rfl, by first | assumption | decide | omega⟩
  by_cases c5 : a = 2
  · refine g_tabIn (tgt := 55) (off := 54) ha dX9_count_1 (by omega) (by omega) (by rw [c5]; rfl) rfl ?_
    refine g_aload_n (pc' := 56) 0 dX9_count_55 rfl rfl ?_
    refine g_getR (pc' := 59) dX9_count_56 rfl f_X9_12 rfl rfl ?_
    refine g_getI (pc' := 62) dX9_count_59 rfl f_X9_213 rfl rfl (fun v6 ev6 rv6 => ?_)
    have bv6 : 0 ≤ v6 ∧ v6 ≤ 6 := by rw [ev6]; exact hi.2.1.1.2.1
    refine g_ireturn dX9_count_62 ?_
    exact ⟨rfl, by first | assumption | decide | omega⟩
  by_cases c7 : a = 3
  · refine g_tabIn (tgt := 63) (off := 62) ha dX9_count_1 (by omega) (by omega) (by rw [c7]; rfl) rfl ?_
    refine g_aload_n (pc' := 64) 0 dX9_count_63 rfl rfl ?_
    refine g_getR (pc' := 67) dX9_count_64 rfl f_X9_12 rfl rfl ?_
    refine g_getI (pc' := 70) dX9_count_67 rfl f_X9_247 rfl rfl (fun v8 ev8 rv8 => ?_)
    have bv8 : 0 ≤ v8 ∧ v8 ≤ 6 := by rw [ev8]; exact hi.2.1.1.2.2
    refine g_ireturn dX9_count_70 ?_
    exact ⟨rfl, by first | assumption | decide | omega⟩
  by_cases c9 : a = 4
  · refine g_tabIn (tgt := 71) (off := 70) ha dX9_count_1 (by omega) (by omega) (by rw [c9]; rfl) rfl ?_
    refine g_aload_n (pc' := 72) 0 dX9_count_71 rfl rfl ?_
    refine g_getR (pc' := 75) dX9_count_72 rfl f_X9_35 rfl rfl ?_
    refine g_getI (pc' := 78) dX9_count_75 rfl f_X9_147 rfl rfl (fun v10 ev10 rv10 => ?_)
    have bv10 : 0 ≤ v10 ∧ v10 ≤ 400 := by rw [ev10]; exact hi.2.2.1.1
    refine g_ireturn dX9_count_78 ?_
    exact ⟨rfl, by first | assumption | decide | omega⟩
  refine g_tabOut (tgt := 79) ha dX9_count_1 (by omega) rfl ?_
  refine g_iload_n (pc' := 80) 1 dX9_count_79 rfl rfl ?_
  refine g_iconst (pc' := 81) dX9_count_80 rfl ?_
  refine g_ic_lt (pc' := 84) (tgt := 99) ha (by decide) dX9_count_81 rfl rfl (fun c12 => ?_) (fun c12 => ?_)
  · refine g_iload_n (pc' := 100) 1 dX9_count_99 rfl rfl ?_
    refine g_bipush (pc' := 102) (v := 10) dX9_count_100 rfl (by decide) ?_
    refine g_ic_lt (pc' := 105) (tgt := 132) ha (by decide) dX9_count_102 rfl rfl (fun c13 => ?_) (fun c13 => ?_)
    · refine g_iconst (pc' := 133) dX9_count_132 rfl ?_
      refine g_ireturn dX9_count_133 ?_
      exact ⟨rfl, by first | assumption | decide | omega⟩
    · refine g_iload_n (pc' := 106) 1 dX9_count_105 rfl rfl ?_
      refine g_bipush (pc' := 108) (v := 10) dX9_count_106 rfl (by decide) ?_
      refine g_aload_n (pc' := 109) 0 dX9_count_108 rfl rfl ?_
      refine g_getR (pc' := 112) dX9_count_109 rfl f_X9_12 rfl rfl ?_
      refine g_getI (pc' := 115) dX9_count_112 rfl f_X9_207 rfl rfl (fun v14 ev14 rv14 => ?_)
      have bv14 : 0 ≤ v14 ∧ v14 ≤ 3 := by rw [ev14]; exact hi.2.1.1.1
      refine g_iadd (pc' := 116) dX9_count_115 rfl ?_
      refine g_ic_ge (pc' := 119) (tgt := 132) ha ⟨by omega, by omega⟩ dX9_count_116 rfl rfl (fun c15 => ?_) (fun c15 => ?_)
      · refine g_iconst (pc' := 133) dX9_count_132 rfl ?_
        refine g_ireturn dX9_count_133 ?_
        exact ⟨rfl, by first | assumption | decide | omega⟩
      · refine g_aload_n (pc' := 120) 0 dX9_count_119 rfl rfl ?_
        refine g_getR (pc' := 123) dX9_count_120 rfl f_X9_12 rfl rfl ?_
        refine g_getR (pc' := 126) dX9_count_123 rfl f_X9_210 rfl rfl ?_
        refine g_iload_n (pc' := 127) 1 dX9_count_126 rfl rfl ?_
        refine g_bipush (pc' := 129) (v := 10) dX9_count_127 rfl (by decide) ?_
        refine g_isub (pc' := 130) dX9_count_129 rfl ?_
        refine g_iald (pc' := 131) dX9_count_130 rfl rfl (by omega) (by omega) (fun v16 ev16 rv16 => ?_)
        refine g_ireturn dX9_count_131 ?_
        exact ⟨rfl, by first | assumption | decide | omega⟩
  · refine g_iload_n (pc' := 85) 1 dX9_count_84 rfl rfl ?_
    refine g_bipush (pc' := 87) (v := 10) dX9_count_85 rfl (by decide) ?_
    refine g_ic_ge (pc' := 90) (tgt := 99) ha (by decide) dX9_count_87 rfl rfl (fun c17 => ?_) (fun c17 => ?_)
    · refine g_iload_n (pc' := 100) 1 dX9_count_99 rfl rfl ?_
      refine g_bipush (pc' := 102) (v := 10) dX9_count_100 rfl (by decide) ?_
      refine g_ic_lt (pc' := 105) (tgt := 132) ha (by decide) dX9_count_102 rfl rfl (fun c18 => ?_) (fun c18 => ?_)
      · refine g_iconst (pc' := 133) dX9_count_132 rfl ?_
        refine g_ireturn dX9_count_133 ?_
        exact ⟨rfl, by first | assumption | decide | omega⟩
      · refine g_iload_n (pc' := 106) 1 dX9_count_105 rfl rfl ?_
        refine g_bipush (pc' := 108) (v := 10) dX9_count_106 rfl (by decide) ?_
        refine g_aload_n (pc' := 109) 0 dX9_count_108 rfl rfl ?_
        refine g_getR (pc' := 112) dX9_count_109 rfl f_X9_12 rfl rfl ?_
        refine g_getI (pc' := 115) dX9_count_112 rfl f_X9_207 rfl rfl (fun v19 ev19 rv19 => ?_)
        have bv19 : 0 ≤ v19 ∧ v19 ≤ 3 := by rw [ev19]; exact hi.2.1.1.1
        refine g_iadd (pc' := 116) dX9_count_115 rfl ?_
        refine g_ic_ge (pc' := 119) (tgt := 132) ha ⟨by omega, by omega⟩ dX9_count_116 rfl rfl (fun c20 => ?_) (fun c20 => ?_)
        · refine g_iconst (pc' := 133) dX9_count_132 rfl ?_
          refine g_ireturn dX9_count_133 ?_
          exact ⟨rfl, by first | assumption | decide | omega⟩
        · refine g_aload_n (pc' := 120) 0 dX9_count_119 rfl rfl ?_
          refine g_getR (pc' := 123) dX9_count_120 rfl f_X9_12 rfl rfl ?_
          refine g_getR (pc' := 126) dX9_count_123 rfl f_X9_210 rfl rfl ?_
          refine g_iload_n (pc' := 127) 1 dX9_count_126 rfl rfl ?_
          refine g_bipush (pc' := 129) (v := 10) dX9_count_127 rfl (by decide) ?_
          refine g_isub (pc' := 130) dX9_count_129 rfl ?_
          refine g_iald (pc' := 131) dX9_count_130 rfl rfl (by omega) (by omega) (fun v21 ev21 rv21 => ?_)
          refine g_ireturn dX9_count_131 ?_
          exact ⟨rfl, by first | assumption | decide | omega⟩
    · refine g_aload_n (pc' := 91) 0 dX9_count_90 rfl rfl ?_
      refine g_getR (pc' := 94) dX9_count_91 rfl f_X9_64 rfl rfl ?_
      refine g_iload_n (pc' := 95) 1 dX9_count_94 rfl rfl ?_
      refine g_iconst (pc' := 96) dX9_count_95 rfl ?_
      refine g_isub (pc' := 97) dX9_count_96 rfl ?_
      refine g_iald (pc' := 98) dX9_count_97 rfl rfl (by omega) (by omega) (fun v22 ev22 rv22 => ?_)
      refine g_ireturn dX9_count_98 ?_
      exact ⟨rfl, by first | assumption | decide | omega⟩
set_option maxHeartbeats 4000000 in
set_option maxRecDepth 100000 in
theorem c_X9_drawn (X : Cx) (M : Mm) (hi : IC M) (a : Int) (ha : inI a) (b : Int) (hb : inI b) : Con X 10 yX9_drawn cX9_drawn 3 (some .int) [vr X 0, vi a, vi b] M (Qi (fun r M1 => M1 = M ∧ (inI r))) := by
  refine Con.ofG rfl (Nat.le_of_ble_eq_true rfl) ?_
  show G X 10 RX9 cX9_drawn 3 (some .int) (Qi (fun r M1 => M1 = M ∧ (inI r))) 0 [(0, vr X 0), (1, vi a), (2, vi b)] [] M
  refine g_aload_n (pc' := 1) 0 dX9_drawn_0 rfl rfl ?_
  refine g_getR (pc' := 4) dX9_drawn_1 rfl f_X9_60 rfl rfl ?_
  refine g_iload_n (pc' := 5) 1 dX9_drawn_4 rfl rfl ?_
  refine g_callVip (pc' := 8) (As := [vi a]) (b := 91) (S := []) dX9_drawn_5 rfl m_X9_92 w_X7_has (c_X7_has X M 91 isT_91 (hi.1 _ isT_91) a ha) rfl ⟨_, _, _, rfl, rfl, rfl⟩ (by decide) (by decide) rfl (Nat.le_of_ble_eq_true rfl) (fun z2 q1 => ?_)
  refine g_if_eq (pc' := 11) (tgt := 18) ⟨by omega, by omega⟩ dX9_drawn_8 rfl rfl (fun c3 => ?_) (fun c3 => ?_)
  · replace q1 := q1.resolve_left (fun h => absurd (c3.symm.trans h.1) (by decide))
    refine g_iconst (pc' := 19) dX9_drawn_18 rfl ?_
    refine g_ireturn dX9_drawn_19 ?_
    exact ⟨rfl, by first | assumption | decide | omega⟩
  · replace q1 := q1.resolve_right (fun h => c3 h.1)
    refine g_iload_n (pc' := 12) 2 dX9_drawn_11 rfl rfl ?_
    refine g_callSip (pc' := 15) (As := [vi b]) (S := []) dX9_drawn_12 rfl m_X9_101 w_X9_isStuff (c_X9_isStuff X M b hb) rfl (by decide) (by decide) rfl (Nat.le_of_ble_eq_true rfl) (fun z5 q4 => ?_)
    refine g_if_ne (pc' := 18) (tgt := 20) ⟨by omega, by omega⟩ dX9_drawn_15 rfl rfl (fun c6 => ?_) (fun c6 => ?_)
    · replace q4 := q4.resolve_right (fun h => c6 h.1)
      refine g_aload_n (pc' := 21) 0 dX9_drawn_20 rfl rfl ?_
      refine g_getR (pc' := 24) dX9_drawn_21 rfl f_X9_60 rfl rfl ?_
      refine g_iload_n (pc' := 25) 1 dX9_drawn_24 rfl rfl ?_
      refine g_iload_n (pc' := 26) 2 dX9_drawn_25 rfl rfl ?_
      refine g_callVip (pc' := 29) (As := [vi a, vi b]) (b := 91) (S := []) dX9_drawn_26 rfl m_X9_114 w_X7_tasteOf (c_X7_tasteOf X M 91 isT_91 (hi.1 _ isT_91) a ha b hb) rfl ⟨_, _, _, rfl, rfl, rfl⟩ (by decide) (by decide) rfl (Nat.le_of_ble_eq_true rfl) (fun z8 q7 => ?_)
      refine g_ireturn dX9_drawn_29 ?_
      exact ⟨rfl, by first | assumption | decide | omega⟩
    · replace q4 := q4.resolve_left (fun h => absurd (c6.symm.trans h.1) (by decide))
      refine g_iconst (pc' := 19) dX9_drawn_18 rfl ?_
      refine g_ireturn dX9_drawn_19 ?_
      exact ⟨rfl, by first | assumption | decide | omega⟩
set_option maxHeartbeats 4000000 in
set_option maxRecDepth 100000 in
theorem c_X9_feed (X : Cx) (M : Mm) (hi : IC M) (a : Int) (ha : inI a) (b : Int) (hb : inI b) (c : Int) (hc : inI c) (e1 : Int) (he1 : inI e1) (e2 : Int) (he2 : inI e2) : Con X 2 yX9_feed cX9_feed 6 (some .int) [vr X 0, vi a, vi b, vi c, vi e1, vi e2] M (Qi (fun r M1 => IC M1 ∧ Fr (fun c => c ≤ 96) M M1 ∧ M1 2 5 = M 2 5 ∧ M1 1 2 = M 1 2 ∧ M1 1 4 = M 1 4 ∧ M1 1 6 = M 1 6 ∧ M1 11 5 = M 11 5 ∧ M1 10 2 = M 10 2 ∧ M1 10 4 = M 10 4 ∧ M1 10 6 = M 10 6 ∧ M1 20 5 = M 20 5 ∧ M1 19 2 = M 19 2 ∧ M1 19 4 = M 19 4 ∧ M1 19 6 = M 19 6 ∧ M1 29 0 = M 29 0 ∧ M1 29 1 = M 29 1 ∧ ((M 31 1 ≤ 380 → r = M 31 1 + 20 ∧ M1 31 1 = M 31 1 + 20) ∧ (380 < M 31 1 → r = -1 ∧ M1 31 1 = M 31 1)))) := by
  refine Con.ofG rfl (Nat.le_of_ble_eq_true rfl) ?_
  show G X 2 RX9 cX9_feed 6 (some .int) (Qi (fun r M1 => IC M1 ∧ Fr (fun c => c ≤ 96) M M1 ∧ M1 2 5 = M 2 5 ∧ M1 1 2 = M 1 2 ∧ M1 1 4 = M 1 4 ∧ M1 1 6 = M 1 6 ∧ M1 11 5 = M 11 5 ∧ M1 10 2 = M 10 2 ∧ M1 10 4 = M 10 4 ∧ M1 10 6 = M 10 6 ∧ M1 20 5 = M 20 5 ∧ M1 19 2 = M 19 2 ∧ M1 19 4 = M 19 4 ∧ M1 19 6 = M 19 6 ∧ M1 29 0 = M 29 0 ∧ M1 29 1 = M 29 1 ∧ ((M 31 1 ≤ 380 → r = M 31 1 + 20 ∧ M1 31 1 = M 31 1 + 20) ∧ (380 < M 31 1 → r = -1 ∧ M1 31 1 = M 31 1)))) 0 [(0, vr X 0), (1, vi a), (2, vi b), (3, vi c), (4, vi e1), (5, vi e2)] [] M
  refine g_aload_n (pc' := 1) 0 dX9_feed_0 rfl rfl ?_
  refine g_getR (pc' := 4) dX9_feed_1 rfl f_X9_35 rfl rfl ?_
  refine g_getI (pc' := 7) dX9_feed_4 rfl f_X9_147 rfl rfl (fun v1 ev1 rv1 => ?_)
  have bv1 : 0 ≤ v1 ∧ v1 ≤ 400 := by rw [ev1]; exact hi.2.2.1.1
  have av1 : v1 = M 31 1 := ev1
  refine g_bipush (pc' := 9) (v := 20) dX9_feed_7 rfl (by decide) ?_
  refine g_iadd (pc' := 10) dX9_feed_9 rfl ?_
  refine g_sipush (pc' := 13) (v := 400) dX9_feed_10 rfl (by decide) ?_
  refine g_ic_le (pc' := 16) (tgt := 18) ⟨by omega, by omega⟩ (by decide) dX9_feed_13 rfl rfl (fun c2 => ?_) (fun c2 => ?_)
  · refine g_aload_n (pc' := 19) 0 dX9_feed_18 rfl rfl ?_
    refine g_getR (pc' := 22) dX9_feed_19 rfl f_X9_35 rfl rfl ?_
    refine g_iload_n (pc' := 23) 1 dX9_feed_22 rfl rfl ?_
    refine g_callVv (pc' := 26) (As := [vi a]) (b := 31) (S := []) dX9_feed_23 rfl m_X9_152 w_X8_append (c_X8_append X M hi a ha) rfl ⟨_, _, _, rfl, rfl, rfl⟩ (by decide) (by decide) rfl (Nat.le_of_ble_eq_true rfl) (fun M4 q3 => ?_)
    obtain ⟨iM4, fM40, pM4⟩ := q3
    have fM4 : Fr (fun c => c ≤ 96) M M4 := Fr.tr Fr.rf fM40 fi_11
    have q2_5_M4 : id (M4 2 5 = M 2 5) := (congrFun (fM40 2 (by first | decide | omega | (dsimp only; omega))) 5)
    have q1_2_M4 : id (M4 1 2 = M 1 2) := (congrFun (fM40 1 (by first | decide | omega | (dsimp only; omega))) 2)
    have q1_4_M4 : id (M4 1 4 = M 1 4) := (congrFun (fM40 1 (by first | decide | omega | (dsimp only; omega))) 4)
    have q1_6_M4 : id (M4 1 6 = M 1 6) := (congrFun (fM40 1 (by first | decide | omega | (dsimp only; omega))) 6)
    have q11_5_M4 : id (M4 11 5 = M 11 5) := (congrFun (fM40 11 (by first | decide | omega | (dsimp only; omega))) 5)
    have q10_2_M4 : id (M4 10 2 = M 10 2) := (congrFun (fM40 10 (by first | decide | omega | (dsimp only; omega))) 2)
    have q10_4_M4 : id (M4 10 4 = M 10 4) := (congrFun (fM40 10 (by first | decide | omega | (dsimp only; omega))) 4)
    have q10_6_M4 : id (M4 10 6 = M 10 6) := (congrFun (fM40 10 (by first | decide | omega | (dsimp only; omega))) 6)
    have q20_5_M4 : id (M4 20 5 = M 20 5) := (congrFun (fM40 20 (by first | decide | omega | (dsimp only; omega))) 5)
    have q19_2_M4 : id (M4 19 2 = M 19 2) := (congrFun (fM40 19 (by first | decide | omega | (dsimp only; omega))) 2)
    have q19_4_M4 : id (M4 19 4 = M 19 4) := (congrFun (fM40 19 (by first | decide | omega | (dsimp only; omega))) 4)
    have q19_6_M4 : id (M4 19 6 = M 19 6) := (congrFun (fM40 19 (by first | decide | omega | (dsimp only; omega))) 6)
    have q29_0_M4 : id (M4 29 0 = M 29 0) := (congrFun (fM40 29 (by first | decide | omega | (dsimp only; omega))) 0)
    have q29_1_M4 : id (M4 29 1 = M 29 1) := (congrFun (fM40 29 (by first | decide | omega | (dsimp only; omega))) 1)
    refine g_aload_n (pc' := 27) 0 dX9_feed_26 rfl rfl ?_
    refine g_getR (pc' := 30) dX9_feed_27 rfl f_X9_35 rfl rfl ?_
    refine g_iload_n (pc' := 31) 2 dX9_feed_30 rfl rfl ?_
    refine g_callVv (pc' := 34) (As := [vi b]) (b := 31) (S := []) dX9_feed_31 rfl m_X9_152 w_X8_append (c_X8_append X M4 iM4 b hb) rfl ⟨_, _, _, rfl, rfl, rfl⟩ (by decide) (by decide) rfl (Nat.le_of_ble_eq_true rfl) (fun M6 q5 => ?_)
    obtain ⟨iM6, fM60, pM6⟩ := q5
    have fM6 : Fr (fun c => c ≤ 96) M M6 := Fr.tr fM4 fM60 fi_11
    have q2_5_M6 : id (M6 2 5 = M 2 5) := (congrFun (fM60 2 (by first | decide | omega | (dsimp only; omega))) 5).trans q2_5_M4
    have q1_2_M6 : id (M6 1 2 = M 1 2) := (congrFun (fM60 1 (by first | decide | omega | (dsimp only; omega))) 2).trans q1_2_M4
    have q1_4_M6 : id (M6 1 4 = M 1 4) := (congrFun (fM60 1 (by first | decide | omega | (dsimp only; omega))) 4).trans q1_4_M4
    have q1_6_M6 : id (M6 1 6 = M 1 6) := (congrFun (fM60 1 (by first | decide | omega | (dsimp only; omega))) 6).trans q1_6_M4
    have q11_5_M6 : id (M6 11 5 = M 11 5) := (congrFun (fM60 11 (by first | decide | omega | (dsimp only; omega))) 5).trans q11_5_M4
    have q10_2_M6 : id (M6 10 2 = M 10 2) := (congrFun (fM60 10 (by first | decide | omega | (dsimp only; omega))) 2).trans q10_2_M4
    have q10_4_M6 : id (M6 10 4 = M 10 4) := (congrFun (fM60 10 (by first | decide | omega | (dsimp only; omega))) 4).trans q10_4_M4
    have q10_6_M6 : id (M6 10 6 = M 10 6) := (congrFun (fM60 10 (by first | decide | omega | (dsimp only; omega))) 6).trans q10_6_M4
    have q20_5_M6 : id (M6 20 5 = M 20 5) := (congrFun (fM60 20 (by first | decide | omega | (dsimp only; omega))) 5).trans q20_5_M4
    have q19_2_M6 : id (M6 19 2 = M 19 2) := (congrFun (fM60 19 (by first | decide | omega | (dsimp only; omega))) 2).trans q19_2_M4
    have q19_4_M6 : id (M6 19 4 = M 19 4) := (congrFun (fM60 19 (by first | decide | omega | (dsimp only; omega))) 4).trans q19_4_M4
    have q19_6_M6 : id (M6 19 6 = M 19 6) := (congrFun (fM60 19 (by first | decide | omega | (dsimp only; omega))) 6).trans q19_6_M4
    have q29_0_M6 : id (M6 29 0 = M 29 0) := (congrFun (fM60 29 (by first | decide | omega | (dsimp only; omega))) 0).trans q29_0_M4
    have q29_1_M6 : id (M6 29 1 = M 29 1) := (congrFun (fM60 29 (by first | decide | omega | (dsimp only; omega))) 1).trans q29_1_M4
    refine g_aload_n (pc' := 35) 0 dX9_feed_34 rfl rfl ?_
    refine g_getR (pc' := 38) dX9_feed_35 rfl f_X9_35 rfl rfl ?_
    refine g_iload_n (pc' := 39) 3 dX9_feed_38 rfl rfl ?_
    refine g_callVv (pc' := 42) (As := [vi c]) (b := 31) (S := []) dX9_feed_39 rfl m_X9_152 w_X8_append (c_X8_append X M6 iM6 c hc) rfl ⟨_, _, _, rfl, rfl, rfl⟩ (by decide) (by decide) rfl (Nat.le_of_ble_eq_true rfl) (fun M8 q7 => ?_)
    obtain ⟨iM8, fM80, pM8⟩ := q7
    have fM8 : Fr (fun c => c ≤ 96) M M8 := Fr.tr fM6 fM80 fi_11
    have q2_5_M8 : id (M8 2 5 = M 2 5) := (congrFun (fM80 2 (by first | decide | omega | (dsimp only; omega))) 5).trans q2_5_M6
    have q1_2_M8 : id (M8 1 2 = M 1 2) := (congrFun (fM80 1 (by first | decide | omega | (dsimp only; omega))) 2).trans q1_2_M6
    have q1_4_M8 : id (M8 1 4 = M 1 4) := (congrFun (fM80 1 (by first | decide | omega | (dsimp only; omega))) 4).trans q1_4_M6
    have q1_6_M8 : id (M8 1 6 = M 1 6) := (congrFun (fM80 1 (by first | decide | omega | (dsimp only; omega))) 6).trans q1_6_M6
    have q11_5_M8 : id (M8 11 5 = M 11 5) := (congrFun (fM80 11 (by first | decide | omega | (dsimp only; omega))) 5).trans q11_5_M6
    have q10_2_M8 : id (M8 10 2 = M 10 2) := (congrFun (fM80 10 (by first | decide | omega | (dsimp only; omega))) 2).trans q10_2_M6
    have q10_4_M8 : id (M8 10 4 = M 10 4) := (congrFun (fM80 10 (by first | decide | omega | (dsimp only; omega))) 4).trans q10_4_M6
    have q10_6_M8 : id (M8 10 6 = M 10 6) := (congrFun (fM80 10 (by first | decide | omega | (dsimp only; omega))) 6).trans q10_6_M6
    have q20_5_M8 : id (M8 20 5 = M 20 5) := (congrFun (fM80 20 (by first | decide | omega | (dsimp only; omega))) 5).trans q20_5_M6
    have q19_2_M8 : id (M8 19 2 = M 19 2) := (congrFun (fM80 19 (by first | decide | omega | (dsimp only; omega))) 2).trans q19_2_M6
    have q19_4_M8 : id (M8 19 4 = M 19 4) := (congrFun (fM80 19 (by first | decide | omega | (dsimp only; omega))) 4).trans q19_4_M6
    have q19_6_M8 : id (M8 19 6 = M 19 6) := (congrFun (fM80 19 (by first | decide | omega | (dsimp only; omega))) 6).trans q19_6_M6
    have q29_0_M8 : id (M8 29 0 = M 29 0) := (congrFun (fM80 29 (by first | decide | omega | (dsimp only; omega))) 0).trans q29_0_M6
    have q29_1_M8 : id (M8 29 1 = M 29 1) := (congrFun (fM80 29 (by first | decide | omega | (dsimp only; omega))) 1).trans q29_1_M6
    refine g_aload_n (pc' := 43) 0 dX9_feed_42 rfl rfl ?_
    refine g_getR (pc' := 46) dX9_feed_43 rfl f_X9_35 rfl rfl ?_
    refine g_iload (pc' := 48) 4 dX9_feed_46 rfl rfl ?_
    refine g_callVv (pc' := 51) (As := [vi e1]) (b := 31) (S := []) dX9_feed_48 rfl m_X9_152 w_X8_append (c_X8_append X M8 iM8 e1 he1) rfl ⟨_, _, _, rfl, rfl, rfl⟩ (by decide) (by decide) rfl (Nat.le_of_ble_eq_true rfl) (fun M10 q9 => ?_)
    obtain ⟨iM10, fM100, pM10⟩ := q9
    have fM10 : Fr (fun c => c ≤ 96) M M10 := Fr.tr fM8 fM100 fi_11
    have q2_5_M10 : id (M10 2 5 = M 2 5) := (congrFun (fM100 2 (by first | decide | omega | (dsimp only; omega))) 5).trans q2_5_M8
    have q1_2_M10 : id (M10 1 2 = M 1 2) := (congrFun (fM100 1 (by first | decide | omega | (dsimp only; omega))) 2).trans q1_2_M8
    have q1_4_M10 : id (M10 1 4 = M 1 4) := (congrFun (fM100 1 (by first | decide | omega | (dsimp only; omega))) 4).trans q1_4_M8
    have q1_6_M10 : id (M10 1 6 = M 1 6) := (congrFun (fM100 1 (by first | decide | omega | (dsimp only; omega))) 6).trans q1_6_M8
    have q11_5_M10 : id (M10 11 5 = M 11 5) := (congrFun (fM100 11 (by first | decide | omega | (dsimp only; omega))) 5).trans q11_5_M8
    have q10_2_M10 : id (M10 10 2 = M 10 2) := (congrFun (fM100 10 (by first | decide | omega | (dsimp only; omega))) 2).trans q10_2_M8
    have q10_4_M10 : id (M10 10 4 = M 10 4) := (congrFun (fM100 10 (by first | decide | omega | (dsimp only; omega))) 4).trans q10_4_M8
    have q10_6_M10 : id (M10 10 6 = M 10 6) := (congrFun (fM100 10 (by first | decide | omega | (dsimp only; omega))) 6).trans q10_6_M8
    have q20_5_M10 : id (M10 20 5 = M 20 5) := (congrFun (fM100 20 (by first | decide | omega | (dsimp only; omega))) 5).trans q20_5_M8
    have q19_2_M10 : id (M10 19 2 = M 19 2) := (congrFun (fM100 19 (by first | decide | omega | (dsimp only; omega))) 2).trans q19_2_M8
    have q19_4_M10 : id (M10 19 4 = M 19 4) := (congrFun (fM100 19 (by first | decide | omega | (dsimp only; omega))) 4).trans q19_4_M8
    have q19_6_M10 : id (M10 19 6 = M 19 6) := (congrFun (fM100 19 (by first | decide | omega | (dsimp only; omega))) 6).trans q19_6_M8
    have q29_0_M10 : id (M10 29 0 = M 29 0) := (congrFun (fM100 29 (by first | decide | omega | (dsimp only; omega))) 0).trans q29_0_M8
    have q29_1_M10 : id (M10 29 1 = M 29 1) := (congrFun (fM100 29 (by first | decide | omega | (dsimp only; omega))) 1).trans q29_1_M8
    refine g_aload_n (pc' := 52) 0 dX9_feed_51 rfl rfl ?_
    refine g_getR (pc' := 55) dX9_feed_52 rfl f_X9_35 rfl rfl ?_
    refine g_iload (pc' := 57) 5 dX9_feed_55 rfl rfl ?_
    refine g_callVv (pc' := 60) (As := [vi e2]) (b := 31) (S := []) dX9_feed_57 rfl m_X9_152 w_X8_append (c_X8_append X M10 iM10 e2 he2) rfl ⟨_, _, _, rfl, rfl, rfl⟩ (by decide) (by decide) rfl (Nat.le_of_ble_eq_true rfl) (fun M12 q11 => ?_)
    obtain ⟨iM12, fM120, pM12⟩ := q11
    have fM12 : Fr (fun c => c ≤ 96) M M12 := Fr.tr fM10 fM120 fi_11
    have q2_5_M12 : id (M12 2 5 = M 2 5) := (congrFun (fM120 2 (by first | decide | omega | (dsimp only; omega))) 5).trans q2_5_M10
    have q1_2_M12 : id (M12 1 2 = M 1 2) := (congrFun (fM120 1 (by first | decide | omega | (dsimp only; omega))) 2).trans q1_2_M10
    have q1_4_M12 : id (M12 1 4 = M 1 4) := (congrFun (fM120 1 (by first | decide | omega | (dsimp only; omega))) 4).trans q1_4_M10
    have q1_6_M12 : id (M12 1 6 = M 1 6) := (congrFun (fM120 1 (by first | decide | omega | (dsimp only; omega))) 6).trans q1_6_M10
    have q11_5_M12 : id (M12 11 5 = M 11 5) := (congrFun (fM120 11 (by first | decide | omega | (dsimp only; omega))) 5).trans q11_5_M10
    have q10_2_M12 : id (M12 10 2 = M 10 2) := (congrFun (fM120 10 (by first | decide | omega | (dsimp only; omega))) 2).trans q10_2_M10
    have q10_4_M12 : id (M12 10 4 = M 10 4) := (congrFun (fM120 10 (by first | decide | omega | (dsimp only; omega))) 4).trans q10_4_M10
    have q10_6_M12 : id (M12 10 6 = M 10 6) := (congrFun (fM120 10 (by first | decide | omega | (dsimp only; omega))) 6).trans q10_6_M10
    have q20_5_M12 : id (M12 20 5 = M 20 5) := (congrFun (fM120 20 (by first | decide | omega | (dsimp only; omega))) 5).trans q20_5_M10
    have q19_2_M12 : id (M12 19 2 = M 19 2) := (congrFun (fM120 19 (by first | decide | omega | (dsimp only; omega))) 2).trans q19_2_M10
    have q19_4_M12 : id (M12 19 4 = M 19 4) := (congrFun (fM120 19 (by first | decide | omega | (dsimp only; omega))) 4).trans q19_4_M10
    have q19_6_M12 : id (M12 19 6 = M 19 6) := (congrFun (fM120 19 (by first | decide | omega | (dsimp only; omega))) 6).trans q19_6_M10
    have q29_0_M12 : id (M12 29 0 = M 29 0) := (congrFun (fM120 29 (by first | decide | omega | (dsimp only; omega))) 0).trans q29_0_M10
    have q29_1_M12 : id (M12 29 1 = M 29 1) := (congrFun (fM120 29 (by first | decide | omega | (dsimp only; omega))) 1).trans q29_1_M10
    refine g_aload_n (pc' := 61) 0 dX9_feed_60 rfl rfl ?_
    refine g_getR (pc' := 64) dX9_feed_61 rfl f_X9_35 rfl rfl ?_
    refine g_getI (pc' := 67) dX9_feed_64 rfl f_X9_147 rfl rfl (fun v13 ev13 rv13 => ?_)
    have bv13 : 0 ≤ v13 ∧ v13 ≤ 400 := by rw [ev13]; exact iM12.2.2.1.1
    refine g_ireturn dX9_feed_67 ?_
    exact ⟨iM12, fM12, q2_5_M12, q1_2_M12, q1_4_M12, q1_6_M12, q11_5_M12, q10_2_M12, q10_4_M12, q10_6_M12, q20_5_M12, q19_2_M12, q19_4_M12, q19_6_M12, q29_0_M12, q29_1_M12, by omega⟩
  · refine g_iconst (pc' := 17) dX9_feed_16 rfl ?_
    refine g_ireturn dX9_feed_17 ?_
    exact ⟨hi, Fr.rf, rfl, rfl, rfl, rfl, rfl, rfl, rfl, rfl, rfl, rfl, rfl, rfl, rfl, rfl, by omega⟩
set_option maxHeartbeats 4000000 in
set_option maxRecDepth 100000 in
theorem c_X9_end (X : Cx) (M : Mm) (hi : IC M) (a : Int) (ha : inI a) : Con X 1 yX9_end cX9_end 2 (some .int) [vr X 0, vi a] M (Qi (fun r M1 => IC M1 ∧ Fr (fun c => c ≤ 96) M M1 ∧ M1 2 5 = M 2 5 ∧ M1 1 2 = M 1 2 ∧ M1 1 4 = M 1 4 ∧ M1 1 6 = M 1 6 ∧ M1 11 5 = M 11 5 ∧ M1 10 2 = M 10 2 ∧ M1 10 4 = M 10 4 ∧ M1 10 6 = M 10 6 ∧ M1 20 5 = M 20 5 ∧ M1 19 2 = M 19 2 ∧ M1 19 4 = M 19 4 ∧ M1 19 6 = M 19 6 ∧ M1 29 0 = M 29 0 ∧ M1 29 1 = M 29 1 ∧ (((0 ≤ a ∧ a ≤ M 31 1) → r = a ∧ M1 31 1 = a) ∧ ((a < 0 ∨ M 31 1 < a) → r = -1 ∧ M1 31 1 = M 31 1)))) := by
  refine Con.ofG rfl (Nat.le_of_ble_eq_true rfl) ?_
  show G X 1 RX9 cX9_end 2 (some .int) (Qi (fun r M1 => IC M1 ∧ Fr (fun c => c ≤ 96) M M1 ∧ M1 2 5 = M 2 5 ∧ M1 1 2 = M 1 2 ∧ M1 1 4 = M 1 4 ∧ M1 1 6 = M 1 6 ∧ M1 11 5 = M 11 5 ∧ M1 10 2 = M 10 2 ∧ M1 10 4 = M 10 4 ∧ M1 10 6 = M 10 6 ∧ M1 20 5 = M 20 5 ∧ M1 19 2 = M 19 2 ∧ M1 19 4 = M 19 4 ∧ M1 19 6 = M 19 6 ∧ M1 29 0 = M 29 0 ∧ M1 29 1 = M 29 1 ∧ (((0 ≤ a ∧ a ≤ M 31 1) → r = a ∧ M1 31 1 = a) ∧ ((a < 0 ∨ M 31 1 < a) → r = -1 ∧ M1 31 1 = M 31 1)))) 0 [(0, vr X 0), (1, vi a)] [] M
  refine g_iload_n (pc' := 1) 1 dX9_end_0 rfl rfl ?_
  refine g_if_lt (pc' := 4) (tgt := 15) ha dX9_end_1 rfl rfl (fun c1 => ?_) (fun c1 => ?_)
  · refine g_iconst (pc' := 16) dX9_end_15 rfl ?_
    refine g_ireturn dX9_end_16 ?_
    exact ⟨hi, Fr.rf, rfl, rfl, rfl, rfl, rfl, rfl, rfl, rfl, rfl, rfl, rfl, rfl, rfl, rfl, by omega⟩
  · refine g_iload_n (pc' := 5) 1 dX9_end_4 rfl rfl ?_
    refine g_aload_n (pc' := 6) 0 dX9_end_5 rfl rfl ?_
    refine g_getR (pc' := 9) dX9_end_6 rfl f_X9_35 rfl rfl ?_
    refine g_getI (pc' := 12) dX9_end_9 rfl f_X9_147 rfl rfl (fun v2 ev2 rv2 => ?_)
    have bv2 : 0 ≤ v2 ∧ v2 ≤ 400 := by rw [ev2]; exact hi.2.2.1.1
    have av2 : v2 = M 31 1 := ev2
    refine g_ic_le (pc' := 15) (tgt := 17) ha rv2 dX9_end_12 rfl rfl (fun c3 => ?_) (fun c3 => ?_)
    · refine g_aload_n (pc' := 18) 0 dX9_end_17 rfl rfl ?_
      refine g_getR (pc' := 21) dX9_end_18 rfl f_X9_35 rfl rfl ?_
      refine g_iload_n (pc' := 22) 1 dX9_end_21 rfl rfl ?_
      refine g_putI (pc' := 25) dX9_end_22 rfl p_X9_147 rfl rfl ha (fun M4 hM4 => ?_)
      have iM4 : IC M4 := IC.wr hi hM4 (by unfold okw isT; first | decide | omega)
      have fM4 : Fr (fun c => c ≤ 96) M M4 := Fr.wr Fr.rf hM4 (by first | decide | omega | (dsimp only; omega))
      have q2_5_M4 : id (M4 2 5 = M 2 5) := (show M4 2 5 = M 2 5 by rw [hM4]; exact mu_ne _ _ (by first | decide | omega))
      have q1_2_M4 : id (M4 1 2 = M 1 2) := (show M4 1 2 = M 1 2 by rw [hM4]; exact mu_ne _ _ (by first | decide | omega))
      have q1_4_M4 : id (M4 1 4 = M 1 4) := (show M4 1 4 = M 1 4 by rw [hM4]; exact mu_ne _ _ (by first | decide | omega))
      have q1_6_M4 : id (M4 1 6 = M 1 6) := (show M4 1 6 = M 1 6 by rw [hM4]; exact mu_ne _ _ (by first | decide | omega))
      have q11_5_M4 : id (M4 11 5 = M 11 5) := (show M4 11 5 = M 11 5 by rw [hM4]; exact mu_ne _ _ (by first | decide | omega))
      have q10_2_M4 : id (M4 10 2 = M 10 2) := (show M4 10 2 = M 10 2 by rw [hM4]; exact mu_ne _ _ (by first | decide | omega))
      have q10_4_M4 : id (M4 10 4 = M 10 4) := (show M4 10 4 = M 10 4 by rw [hM4]; exact mu_ne _ _ (by first | decide | omega))
      have q10_6_M4 : id (M4 10 6 = M 10 6) := (show M4 10 6 = M 10 6 by rw [hM4]; exact mu_ne _ _ (by first | decide | omega))
      have q20_5_M4 : id (M4 20 5 = M 20 5) := (show M4 20 5 = M 20 5 by rw [hM4]; exact mu_ne _ _ (by first | decide | omega))
      have q19_2_M4 : id (M4 19 2 = M 19 2) := (show M4 19 2 = M 19 2 by rw [hM4]; exact mu_ne _ _ (by first | decide | omega))
      have q19_4_M4 : id (M4 19 4 = M 19 4) := (show M4 19 4 = M 19 4 by rw [hM4]; exact mu_ne _ _ (by first | decide | omega))
      have q19_6_M4 : id (M4 19 6 = M 19 6) := (show M4 19 6 = M 19 6 by rw [hM4]; exact mu_ne _ _ (by first | decide | omega))
      have q29_0_M4 : id (M4 29 0 = M 29 0) := (show M4 29 0 = M 29 0 by rw [hM4]; exact mu_ne _ _ (by first | decide | omega))
      have q29_1_M4 : id (M4 29 1 = M 29 1) := (show M4 29 1 = M 29 1 by rw [hM4]; exact mu_ne _ _ (by first | decide | omega))
      have xM4_31_1 : M4 31 1 = a := by rw [hM4]; exact mu_at _ _ _ _
      refine g_iload_n (pc' := 26) 1 dX9_end_25 rfl rfl ?_
      refine g_ireturn dX9_end_26 ?_
      exact ⟨iM4, fM4, q2_5_M4, q1_2_M4, q1_4_M4, q1_6_M4, q11_5_M4, q10_2_M4, q10_4_M4, q10_6_M4, q20_5_M4, q19_2_M4, q19_4_M4, q19_6_M4, q29_0_M4, q29_1_M4, by omega⟩
    · refine g_iconst (pc' := 16) dX9_end_15 rfl ?_
      refine g_ireturn dX9_end_16 ?_
      exact ⟨hi, Fr.rf, rfl, rfl, rfl, rfl, rfl, rfl, rfl, rfl, rfl, rfl, rfl, rfl, rfl, rfl, by omega⟩
set_option maxHeartbeats 4000000 in
set_option maxRecDepth 100000 in
theorem l_X9_fillRow_39 (X : Cx) (M : Mm) (hi : IC M) : ∀ (kk : Nat) (f : Int) (i : Int) (M1 : Mm) (ic1 : IC M1) (fr1 : Fr (fun c => c = 0 ∨ (2 ≤ c ∧ c ≤ 6)) M M1) (q2_5 : id (M1 2 5 = M 2 5)) (q1_2 : id (M1 1 2 = M 1 2)) (q1_4 : id (M1 1 4 = M 1 4)) (q1_6 : id (M1 1 6 = M 1 6)) (q11_5 : id (M1 11 5 = M 11 5)) (q10_2 : id (M1 10 2 = M 10 2)) (q10_4 : id (M1 10 4 = M 10 4)) (q10_6 : id (M1 10 6 = M 10 6)) (q20_5 : id (M1 20 5 = M 20 5)) (q19_2 : id (M1 19 2 = M 19 2)) (q19_4 : id (M1 19 4 = M 19 4)) (q19_6 : id (M1 19 6 = M 19 6)) (q29_0 : id (M1 29 0 = M 29 0)) (q29_1 : id (M1 29 1 = M 29 1)) (q31_1 : id (M1 31 1 = M 31 1)) (f0 : 0 ≤ f ∧ f ≤ i) (h0 : 1 ≤ i) (h1 : i ≤ 401) (hl : 1 ≤ M 31 1), (401 - i).toNat = kk → G X 3 RX9 cX9_fillRow 3 (some .int) (Qi (fun r M1 => IC M1 ∧ Fr (fun c => c = 0 ∨ (2 ≤ c ∧ c ≤ 6)) M M1 ∧ M1 2 5 = M 2 5 ∧ M1 1 2 = M 1 2 ∧ M1 1 4 = M 1 4 ∧ M1 1 6 = M 1 6 ∧ M1 11 5 = M 11 5 ∧ M1 10 2 = M 10 2 ∧ M1 10 4 = M 10 4 ∧ M1 10 6 = M 10 6 ∧ M1 20 5 = M 20 5 ∧ M1 19 2 = M 19 2 ∧ M1 19 4 = M 19 4 ∧ M1 19 6 = M 19 6 ∧ M1 29 0 = M 29 0 ∧ M1 29 1 = M 29 1 ∧ M1 31 1 = M 31 1 ∧ (inI r))) 39 [(1, vi f), (2, vi i), (0, vr X 0)] [] M1 := by
  intro kk
  induction kk using Nat.strongRecOn with
  | ind kk ih =>
    intro f i M1 ic1 fr1 q2_5 q1_2 q1_4 q1_6 q11_5 q10_2 q10_4 q10_6 q20_5 q19_2 q19_4 q19_6 q29_0 q29_1 q31_1 f0 h0 h1 hl hmes
    refine g_iload_n (pc' := 40) 1 dX9_fillRow_39 rfl rfl ?_
    refine g_aload_n (pc' := 41) 2 dX9_fillRow_40 rfl rfl ?_
    refine g_getR (pc' := 44) dX9_fillRow_41 rfl f_X9_35 rfl rfl ?_
    refine g_getI (pc' := 47) dX9_fillRow_44 rfl f_X9_147 rfl rfl (fun v1 ev1 rv1 => ?_)
    have bv1 : 0 ≤ v1 ∧ v1 ≤ 400 := by rw [ev1]; exact ic1.2.2.1.1
    have av1 : v1 = M 31 1 := ev1.trans q31_1
    refine g_ic_ge (pc' := 50) (tgt := 93) ⟨by omega, by omega⟩ rv1 dX9_fillRow_47 rfl rfl (fun c2 => ?_) (fun c2 => ?_)
    · refine g_aload_n (pc' := 94) 2 dX9_fillRow_93 rfl rfl ?_
      refine g_aload_n (pc' := 95) 2 dX9_fillRow_94 rfl rfl ?_
      refine g_getR (pc' := 98) dX9_fillRow_95 rfl f_X9_35 rfl rfl ?_
      refine g_getI (pc' := 101) dX9_fillRow_98 rfl f_X9_147 rfl rfl (fun v3 ev3 rv3 => ?_)
      obtain rfl : v1 = v3 := ev1.trans ev3.symm
      refine g_iconst (pc' := 102) dX9_fillRow_101 rfl ?_
      refine g_isub (pc' := 103) dX9_fillRow_102 rfl ?_
      refine g_iload_n (pc' := 104) 0 dX9_fillRow_103 rfl rfl ?_
      refine g_isub (pc' := 105) dX9_fillRow_104 rfl ?_
      refine g_putI (pc' := 108) dX9_fillRow_105 rfl p_X9_162 rfl rfl ⟨by omega, by omega⟩ (fun M4 hM4 => ?_)
      have iM4 : IC M4 := IC.wr ic1 hM4 (by unfold okw isT; first | decide | omega)
      have fM4 : Fr (fun c => c = 0 ∨ (2 ≤ c ∧ c ≤ 6)) M M4 := Fr.wr fr1 hM4 (by first | decide | omega | (dsimp only; omega))
      have q2_5_M4 : id (M4 2 5 = M 2 5) := (show M4 2 5 = M1 2 5 by rw [hM4]; exact mu_ne _ _ (by first | decide | omega)).trans q2_5
      have q1_2_M4 : id (M4 1 2 = M 1 2) := (show M4 1 2 = M1 1 2 by rw [hM4]; exact mu_ne _ _ (by first | decide | omega)).trans q1_2
      have q1_4_M4 : id (M4 1 4 = M 1 4) := (show M4 1 4 = M1 1 4 by rw [hM4]; exact mu_ne _ _ (by first | decide | omega)).trans q1_4
      have q1_6_M4 : id (M4 1 6 = M 1 6) := (show M4 1 6 = M1 1 6 by rw [hM4]; exact mu_ne _ _ (by first | decide | omega)).trans q1_6
      have q11_5_M4 : id (M4 11 5 = M 11 5) := (show M4 11 5 = M1 11 5 by rw [hM4]; exact mu_ne _ _ (by first | decide | omega)).trans q11_5
      have q10_2_M4 : id (M4 10 2 = M 10 2) := (show M4 10 2 = M1 10 2 by rw [hM4]; exact mu_ne _ _ (by first | decide | omega)).trans q10_2
      have q10_4_M4 : id (M4 10 4 = M 10 4) := (show M4 10 4 = M1 10 4 by rw [hM4]; exact mu_ne _ _ (by first | decide | omega)).trans q10_4
      have q10_6_M4 : id (M4 10 6 = M 10 6) := (show M4 10 6 = M1 10 6 by rw [hM4]; exact mu_ne _ _ (by first | decide | omega)).trans q10_6
      have q20_5_M4 : id (M4 20 5 = M 20 5) := (show M4 20 5 = M1 20 5 by rw [hM4]; exact mu_ne _ _ (by first | decide | omega)).trans q20_5
      have q19_2_M4 : id (M4 19 2 = M 19 2) := (show M4 19 2 = M1 19 2 by rw [hM4]; exact mu_ne _ _ (by first | decide | omega)).trans q19_2
      have q19_4_M4 : id (M4 19 4 = M 19 4) := (show M4 19 4 = M1 19 4 by rw [hM4]; exact mu_ne _ _ (by first | decide | omega)).trans q19_4
      have q19_6_M4 : id (M4 19 6 = M 19 6) := (show M4 19 6 = M1 19 6 by rw [hM4]; exact mu_ne _ _ (by first | decide | omega)).trans q19_6
      have q29_0_M4 : id (M4 29 0 = M 29 0) := (show M4 29 0 = M1 29 0 by rw [hM4]; exact mu_ne _ _ (by first | decide | omega)).trans q29_0
      have q29_1_M4 : id (M4 29 1 = M 29 1) := (show M4 29 1 = M1 29 1 by rw [hM4]; exact mu_ne _ _ (by first | decide | omega)).trans q29_1
      have q31_1_M4 : id (M4 31 1 = M 31 1) := (show M4 31 1 = M1 31 1 by rw [hM4]; exact mu_ne _ _ (by first | decide | omega)).trans q31_1
      have xM4_0_11 : M4 0 11 = (v1 - 1) - f := by rw [hM4]; exact mu_at _ _ _ _
      refine g_iload_n (pc' := 109) 0 dX9_fillRow_108 rfl rfl ?_
      refine g_ireturn dX9_fillRow_109 ?_
      exact ⟨iM4, fM4, q2_5_M4, q1_2_M4, q1_4_M4, q1_6_M4, q11_5_M4, q10_2_M4, q10_4_M4, q10_6_M4, q20_5_M4, q19_2_M4, q19_4_M4, q19_6_M4, q29_0_M4, q29_1_M4, q31_1_M4, by omega⟩
    · refine g_aload_n (pc' := 51) 2 dX9_fillRow_50 rfl rfl ?_
      refine g_getR (pc' := 54) dX9_fillRow_51 rfl f_X9_12 rfl rfl ?_
      refine g_getR (pc' := 57) dX9_fillRow_54 rfl f_X9_86 rfl rfl ?_
      refine g_aload_n (pc' := 58) 2 dX9_fillRow_57 rfl rfl ?_
      refine g_getR (pc' := 61) dX9_fillRow_58 rfl f_X9_35 rfl rfl ?_
      refine g_getR (pc' := 64) dX9_fillRow_61 rfl f_X9_159 rfl rfl ?_
      refine g_iconst (pc' := 65) dX9_fillRow_64 rfl ?_
      refine g_iald (pc' := 66) dX9_fillRow_65 rfl rfl (by decide) (by decide) (fun v5 ev5 rv5 => ?_)
      refine g_iload_n (pc' := 67) 1 dX9_fillRow_66 rfl rfl ?_
      refine g_iconst (pc' := 68) dX9_fillRow_67 rfl ?_
      refine g_isub (pc' := 69) dX9_fillRow_68 rfl ?_
      refine g_aload_n (pc' := 70) 2 dX9_fillRow_69 rfl rfl ?_
      refine g_getR (pc' := 73) dX9_fillRow_70 rfl f_X9_35 rfl rfl ?_
      refine g_getR (pc' := 76) dX9_fillRow_73 rfl f_X9_159 rfl rfl ?_
      refine g_iload_n (pc' := 77) 1 dX9_fillRow_76 rfl rfl ?_
      refine g_iald (pc' := 78) dX9_fillRow_77 rfl rfl (by omega) (by omega) (fun v6 ev6 rv6 => ?_)
      refine g_callVi (pc' := 81) (As := [vi v5, vi (i - 1), vi v6]) (b := 2) (S := []) dX9_fillRow_78 rfl m_X9_122 w_X7_pour (c_X7_pour X M1 2 isT_2 (ic1.1 _ isT_2) v5 rv5 (i - 1) ⟨by omega, by omega⟩ v6 rv6) rfl ⟨_, _, _, rfl, rfl, rfl⟩ (by decide) (by decide) rfl (Nat.le_of_ble_eq_true rfl) (fun z8 M9 q7 => ?_)
      obtain ⟨kM9, fM90, gM90, pM9⟩ := q7
      have iM9 : IC M9 := IC.ofT ic1 isT_2 fM90 kM9
      have fM9 : Fr (fun c => c = 0 ∨ (2 ≤ c ∧ c ≤ 6)) M M9 := Fr.tr fr1 fM90 (fun c z => by unfold inT at z; first | omega | (dsimp only; omega))
      have q2_5_M9 : id (M9 2 5 = M 2 5) := gM90.trans q2_5
      have q1_2_M9 : id (M9 1 2 = M 1 2) := (congrFun (fM90 1 (by unfold inT; first | decide | omega)) 2).trans q1_2
      have q1_4_M9 : id (M9 1 4 = M 1 4) := (congrFun (fM90 1 (by unfold inT; first | decide | omega)) 4).trans q1_4
      have q1_6_M9 : id (M9 1 6 = M 1 6) := (congrFun (fM90 1 (by unfold inT; first | decide | omega)) 6).trans q1_6
      have q11_5_M9 : id (M9 11 5 = M 11 5) := (congrFun (fM90 11 (by unfold inT; first | decide | omega)) 5).trans q11_5
      have q10_2_M9 : id (M9 10 2 = M 10 2) := (congrFun (fM90 10 (by unfold inT; first | decide | omega)) 2).trans q10_2
      have q10_4_M9 : id (M9 10 4 = M 10 4) := (congrFun (fM90 10 (by unfold inT; first | decide | omega)) 4).trans q10_4
      have q10_6_M9 : id (M9 10 6 = M 10 6) := (congrFun (fM90 10 (by unfold inT; first | decide | omega)) 6).trans q10_6
      have q20_5_M9 : id (M9 20 5 = M 20 5) := (congrFun (fM90 20 (by unfold inT; first | decide | omega)) 5).trans q20_5
      have q19_2_M9 : id (M9 19 2 = M 19 2) := (congrFun (fM90 19 (by unfold inT; first | decide | omega)) 2).trans q19_2
      have q19_4_M9 : id (M9 19 4 = M 19 4) := (congrFun (fM90 19 (by unfold inT; first | decide | omega)) 4).trans q19_4
      have q19_6_M9 : id (M9 19 6 = M 19 6) := (congrFun (fM90 19 (by unfold inT; first | decide | omega)) 6).trans q19_6
      have q29_0_M9 : id (M9 29 0 = M 29 0) := (congrFun (fM90 29 (by unfold inT; first | decide | omega)) 0).trans q29_0
      have q29_1_M9 : id (M9 29 1 = M 29 1) := (congrFun (fM90 29 (by unfold inT; first | decide | omega)) 1).trans q29_1
      have q31_1_M9 : id (M9 31 1 = M 31 1) := (congrFun (fM90 31 (by unfold inT; first | decide | omega)) 1).trans q31_1
      refine g_if_ne (pc' := 84) (tgt := 87) ⟨by omega, by omega⟩ dX9_fillRow_81 rfl rfl (fun c10 => ?_) (fun c10 => ?_)
      · refine g_iinc (pc' := 90) (L' := [(2, vi (i + 1)), (1, vi f), (0, vr X 0)]) 1 dX9_fillRow_87 rfl rfl (by decide) rfl ?_
        refine g_goto (tgt := 39) dX9_fillRow_90 rfl ?_
        refine g_sub [1, 0, 2] rfl ?_
        exact ih _ (by omega) f (i + 1) M9 iM9 fM9 q2_5_M9 q1_2_M9 q1_4_M9 q1_6_M9 q11_5_M9 q10_2_M9 q10_4_M9 q10_6_M9 q20_5_M9 q19_2_M9 q19_4_M9 q19_6_M9 q29_0_M9 q29_1_M9 q31_1_M9 (by omega) (by omega) (by omega) (by omega) rfl
      · refine g_iinc (pc' := 87) (L' := [(1, vi (f + 1)), (2, vi i), (0, vr X 0)]) 0 dX9_fillRow_84 rfl rfl (by decide) rfl ?_
        refine g_iinc (pc' := 90) (L' := [(2, vi (i + 1)), (1, vi (f + 1)), (0, vr X 0)]) 1 dX9_fillRow_87 rfl rfl (by decide) rfl ?_
        refine g_goto (tgt := 39) dX9_fillRow_90 rfl ?_
        refine g_sub [1, 0, 2] rfl ?_
        exact ih _ (by omega) (f + 1) (i + 1) M9 iM9 fM9 q2_5_M9 q1_2_M9 q1_4_M9 q1_6_M9 q11_5_M9 q10_2_M9 q10_4_M9 q10_6_M9 q20_5_M9 q19_2_M9 q19_4_M9 q19_6_M9 q29_0_M9 q29_1_M9 q31_1_M9 (by omega) (by omega) (by omega) (by omega) rfl
set_option maxHeartbeats 4000000 in
set_option maxRecDepth 100000 in
theorem c_X9_fillRow (X : Cx) (M : Mm) (hi : IC M) : Con X 3 yX9_fillRow cX9_fillRow 3 (some .int) [vr X 0] M (Qi (fun r M1 => IC M1 ∧ Fr (fun c => c = 0 ∨ (2 ≤ c ∧ c ≤ 6)) M M1 ∧ M1 2 5 = M 2 5 ∧ M1 1 2 = M 1 2 ∧ M1 1 4 = M 1 4 ∧ M1 1 6 = M 1 6 ∧ M1 11 5 = M 11 5 ∧ M1 10 2 = M 10 2 ∧ M1 10 4 = M 10 4 ∧ M1 10 6 = M 10 6 ∧ M1 20 5 = M 20 5 ∧ M1 19 2 = M 19 2 ∧ M1 19 4 = M 19 4 ∧ M1 19 6 = M 19 6 ∧ M1 29 0 = M 29 0 ∧ M1 29 1 = M 29 1 ∧ M1 31 1 = M 31 1 ∧ (inI r))) := by
  refine Con.ofG rfl (Nat.le_of_ble_eq_true rfl) ?_
  show G X 3 RX9 cX9_fillRow 3 (some .int) (Qi (fun r M1 => IC M1 ∧ Fr (fun c => c = 0 ∨ (2 ≤ c ∧ c ≤ 6)) M M1 ∧ M1 2 5 = M 2 5 ∧ M1 1 2 = M 1 2 ∧ M1 1 4 = M 1 4 ∧ M1 1 6 = M 1 6 ∧ M1 11 5 = M 11 5 ∧ M1 10 2 = M 10 2 ∧ M1 10 4 = M 10 4 ∧ M1 10 6 = M 10 6 ∧ M1 20 5 = M 20 5 ∧ M1 19 2 = M 19 2 ∧ M1 19 4 = M 19 4 ∧ M1 19 6 = M 19 6 ∧ M1 29 0 = M 29 0 ∧ M1 29 1 = M 29 1 ∧ M1 31 1 = M 31 1 ∧ (inI r))) 0 [(0, vr X 0)] [] M
  refine g_aload_n (pc' := 1) 0 dX9_fillRow_0 rfl rfl ?_
  refine g_getR (pc' := 4) dX9_fillRow_1 rfl f_X9_35 rfl rfl ?_
  refine g_getI (pc' := 7) dX9_fillRow_4 rfl f_X9_147 rfl rfl (fun v1 ev1 rv1 => ?_)
  have bv1 : 0 ≤ v1 ∧ v1 ≤ 400 := by rw [ev1]; exact hi.2.2.1.1
  have av1 : v1 = M 31 1 := ev1
  refine g_if_le (pc' := 10) (tgt := 32) rv1 dX9_fillRow_7 rfl rfl (fun c2 => ?_) (fun c2 => ?_)
  · refine g_bipush (pc' := 34) (v := (-6)) dX9_fillRow_32 rfl (by decide) ?_
    refine g_ireturn dX9_fillRow_34 ?_
    exact ⟨hi, Fr.rf, rfl, rfl, rfl, rfl, rfl, rfl, rfl, rfl, rfl, rfl, rfl, rfl, rfl, rfl, rfl, by omega⟩
  · refine g_aload_n (pc' := 11) 0 dX9_fillRow_10 rfl rfl ?_
    refine g_getR (pc' := 14) dX9_fillRow_11 rfl f_X9_12 rfl rfl ?_
    refine g_getR (pc' := 17) dX9_fillRow_14 rfl f_X9_86 rfl rfl ?_
    refine g_aload_n (pc' := 18) 0 dX9_fillRow_17 rfl rfl ?_
    refine g_getR (pc' := 21) dX9_fillRow_18 rfl f_X9_35 rfl rfl ?_
    refine g_getR (pc' := 24) dX9_fillRow_21 rfl f_X9_159 rfl rfl ?_
    refine g_iconst (pc' := 25) dX9_fillRow_24 rfl ?_
    refine g_iald (pc' := 26) dX9_fillRow_25 rfl rfl (by decide) (by decide) (fun v3 ev3 rv3 => ?_)
    refine g_callVip (pc' := 29) (As := [vi v3]) (b := 2) (S := []) dX9_fillRow_26 rfl m_X9_92 w_X7_has (c_X7_has X M 2 isT_2 (hi.1 _ isT_2) v3 rv3) rfl ⟨_, _, _, rfl, rfl, rfl⟩ (by decide) (by decide) rfl (Nat.le_of_ble_eq_true rfl) (fun z5 q4 => ?_)
    refine g_if_ne (pc' := 32) (tgt := 35) ⟨by omega, by omega⟩ dX9_fillRow_29 rfl rfl (fun c6 => ?_) (fun c6 => ?_)
    · replace q4 := q4.resolve_right (fun h => c6 h.1)
      refine g_iconst (pc' := 36) dX9_fillRow_35 rfl ?_
      refine g_istore_n (pc' := 37) (i := 1) (L' := [(1, vi 0), (0, vr X 0)]) dX9_fillRow_36 rfl rfl (by decide) rfl ?_
      refine g_iconst (pc' := 38) dX9_fillRow_37 rfl ?_
      refine g_istore_n (pc' := 39) (i := 2) (L' := [(2, vi 1), (1, vi 0), (0, vr X 0)]) dX9_fillRow_38 rfl rfl (by decide) rfl ?_
      refine g_sub [1, 0, 2] rfl ?_
      exact l_X9_fillRow_39 X M hi _ 0 1 M hi Fr.rf rfl rfl rfl rfl rfl rfl rfl rfl rfl rfl rfl rfl rfl rfl rfl (by omega) (by omega) (by omega) (by omega) rfl
    · replace q4 := q4.resolve_left (fun h => absurd (c6.symm.trans h.1) (by decide))
      refine g_bipush (pc' := 34) (v := (-6)) dX9_fillRow_32 rfl (by decide) ?_
      refine g_ireturn dX9_fillRow_34 ?_
      exact ⟨hi, Fr.rf, rfl, rfl, rfl, rfl, rfl, rfl, rfl, rfl, rfl, rfl, rfl, rfl, rfl, rfl, rfl, by omega⟩
set_option maxHeartbeats 4000000 in
set_option maxRecDepth 100000 in
theorem c_X9_row (X : Cx) (M : Mm) (hi : IC M) : Con X 4 yX9_row cX9_row 2 (some .int) [vr X 0] M (Qi (fun r M1 => IC M1 ∧ Fr (fun c => c ≤ 96) M M1 ∧ M1 2 5 = M 2 5 ∧ M1 1 2 = M 1 2 ∧ M1 1 4 = M 1 4 ∧ M1 1 6 = M 1 6 ∧ M1 11 5 = M 11 5 ∧ M1 10 2 = M 10 2 ∧ M1 10 4 = M 10 4 ∧ M1 10 6 = M 10 6 ∧ M1 20 5 = M 20 5 ∧ M1 19 2 = M 19 2 ∧ M1 19 4 = M 19 4 ∧ M1 19 6 = M 19 6 ∧ M1 29 0 = M 29 0 ∧ M1 29 1 = M 29 1 ∧ (inI r ∧ M1 31 1 = 0))) := by
  refine Con.ofG rfl (Nat.le_of_ble_eq_true rfl) ?_
  show G X 4 RX9 cX9_row 2 (some .int) (Qi (fun r M1 => IC M1 ∧ Fr (fun c => c ≤ 96) M M1 ∧ M1 2 5 = M 2 5 ∧ M1 1 2 = M 1 2 ∧ M1 1 4 = M 1 4 ∧ M1 1 6 = M 1 6 ∧ M1 11 5 = M 11 5 ∧ M1 10 2 = M 10 2 ∧ M1 10 4 = M 10 4 ∧ M1 10 6 = M 10 6 ∧ M1 20 5 = M 20 5 ∧ M1 19 2 = M 19 2 ∧ M1 19 4 = M 19 4 ∧ M1 19 6 = M 19 6 ∧ M1 29 0 = M 29 0 ∧ M1 29 1 = M 29 1 ∧ (inI r ∧ M1 31 1 = 0))) 0 [(0, vr X 0)] [] M
  refine g_aload_n (pc' := 1) 0 dX9_row_0 rfl rfl ?_
  refine g_callVi (pc' := 4) (As := []) (b := 0) (S := []) dX9_row_1 rfl m_X9_155 w_X9_fillRow (c_X9_fillRow X M hi) rfl ⟨_, _, _, rfl, rfl, rfl⟩ (by decide) (by decide) rfl (Nat.le_of_ble_eq_true rfl) (fun z2 M3 q1 => ?_)
  obtain ⟨iM3, fM30, eM3_2_5, eM3_1_2, eM3_1_4, eM3_1_6, eM3_11_5, eM3_10_2, eM3_10_4, eM3_10_6, eM3_20_5, eM3_19_2, eM3_19_4, eM3_19_6, eM3_29_0, eM3_29_1, eM3_31_1, pM3⟩ := q1
  have fM3 : Fr (fun c => c ≤ 96) M M3 := Fr.tr Fr.rf fM30 fi_12
  have q2_5_M3 : id (M3 2 5 = M 2 5) := eM3_2_5
  have q1_2_M3 : id (M3 1 2 = M 1 2) := eM3_1_2
  have q1_4_M3 : id (M3 1 4 = M 1 4) := eM3_1_4
  have q1_6_M3 : id (M3 1 6 = M 1 6) := eM3_1_6
  have q11_5_M3 : id (M3 11 5 = M 11 5) := eM3_11_5
  have q10_2_M3 : id (M3 10 2 = M 10 2) := eM3_10_2
  have q10_4_M3 : id (M3 10 4 = M 10 4) := eM3_10_4
  have q10_6_M3 : id (M3 10 6 = M 10 6) := eM3_10_6
  have q20_5_M3 : id (M3 20 5 = M 20 5) := eM3_20_5
  have q19_2_M3 : id (M3 19 2 = M 19 2) := eM3_19_2
  have q19_4_M3 : id (M3 19 4 = M 19 4) := eM3_19_4
  have q19_6_M3 : id (M3 19 6 = M 19 6) := eM3_19_6
  have q29_0_M3 : id (M3 29 0 = M 29 0) := eM3_29_0
  have q29_1_M3 : id (M3 29 1 = M 29 1) := eM3_29_1
  have q31_1_M3 : (M3 31 1 = M 31 1) := eM3_31_1
  have wM3_31_1 : M3 31 1 = M 31 1 := eM3_31_1
  clear eM3_2_5 eM3_1_2 eM3_1_4 eM3_1_6 eM3_11_5 eM3_10_2 eM3_10_4 eM3_10_6 eM3_20_5 eM3_19_2 eM3_19_4 eM3_19_6 eM3_29_0 eM3_29_1
  refine g_istore_n (pc' := 5) (i := 1) (L' := [(1, vi z2), (0, vr X 0)]) dX9_row_4 rfl rfl (by decide) rfl ?_
  refine g_aload_n (pc' := 6) 1 dX9_row_5 rfl rfl ?_
  refine g_getR (pc' := 9) dX9_row_6 rfl f_X9_35 rfl rfl ?_
  refine g_iconst (pc' := 10) dX9_row_9 rfl ?_
  refine g_putI (pc' := 13) dX9_row_10 rfl p_X9_147 rfl rfl (by decide) (fun M4 hM4 => ?_)
  have iM4 : IC M4 := IC.wr iM3 hM4 (by unfold okw isT; first | decide | omega)
  have fM4 : Fr (fun c => c ≤ 96) M M4 := Fr.wr fM3 hM4 (by first | decide | omega | (dsimp only; omega))
  have q2_5_M4 : id (M4 2 5 = M 2 5) := (show M4 2 5 = M3 2 5 by rw [hM4]; exact mu_ne _ _ (by first | decide | omega)).trans q2_5_M3
  have q1_2_M4 : id (M4 1 2 = M 1 2) := (show M4 1 2 = M3 1 2 by rw [hM4]; exact mu_ne _ _ (by first | decide | omega)).trans q1_2_M3
  have q1_4_M4 : id (M4 1 4 = M 1 4) := (show M4 1 4 = M3 1 4 by rw [hM4]; exact mu_ne _ _ (by first | decide | omega)).trans q1_4_M3
  have q1_6_M4 : id (M4 1 6 = M 1 6) := (show M4 1 6 = M3 1 6 by rw [hM4]; exact mu_ne _ _ (by first | decide | omega)).trans q1_6_M3
  have q11_5_M4 : id (M4 11 5 = M 11 5) := (show M4 11 5 = M3 11 5 by rw [hM4]; exact mu_ne _ _ (by first | decide | omega)).trans q11_5_M3
  have q10_2_M4 : id (M4 10 2 = M 10 2) := (show M4 10 2 = M3 10 2 by rw [hM4]; exact mu_ne _ _ (by first | decide | omega)).trans q10_2_M3
  have q10_4_M4 : id (M4 10 4 = M 10 4) := (show M4 10 4 = M3 10 4 by rw [hM4]; exact mu_ne _ _ (by first | decide | omega)).trans q10_4_M3
  have q10_6_M4 : id (M4 10 6 = M 10 6) := (show M4 10 6 = M3 10 6 by rw [hM4]; exact mu_ne _ _ (by first | decide | omega)).trans q10_6_M3
  have q20_5_M4 : id (M4 20 5 = M 20 5) := (show M4 20 5 = M3 20 5 by rw [hM4]; exact mu_ne _ _ (by first | decide | omega)).trans q20_5_M3
  have q19_2_M4 : id (M4 19 2 = M 19 2) := (show M4 19 2 = M3 19 2 by rw [hM4]; exact mu_ne _ _ (by first | decide | omega)).trans q19_2_M3
  have q19_4_M4 : id (M4 19 4 = M 19 4) := (show M4 19 4 = M3 19 4 by rw [hM4]; exact mu_ne _ _ (by first | decide | omega)).trans q19_4_M3
  have q19_6_M4 : id (M4 19 6 = M 19 6) := (show M4 19 6 = M3 19 6 by rw [hM4]; exact mu_ne _ _ (by first | decide | omega)).trans q19_6_M3
  have q29_0_M4 : id (M4 29 0 = M 29 0) := (show M4 29 0 = M3 29 0 by rw [hM4]; exact mu_ne _ _ (by first | decide | omega)).trans q29_0_M3
  have q29_1_M4 : id (M4 29 1 = M 29 1) := (show M4 29 1 = M3 29 1 by rw [hM4]; exact mu_ne _ _ (by first | decide | omega)).trans q29_1_M3
  have xM4_31_1 : M4 31 1 = 0 := by rw [hM4]; exact mu_at _ _ _ _
  refine g_aload_n (pc' := 14) 1 dX9_row_13 rfl rfl ?_
  refine g_iload_n (pc' := 15) 0 dX9_row_14 rfl rfl ?_
  refine g_callVi (pc' := 18) (As := [vi z2]) (b := 0) (S := []) dX9_row_15 rfl m_X9_79 w_X9_answered (c_X9_answered X M4 iM4 z2 ⟨by omega, by omega⟩) rfl ⟨_, _, _, rfl, rfl, rfl⟩ (by decide) (by decide) rfl (Nat.le_of_ble_eq_true rfl) (fun z6 M7 q5 => ?_)
  obtain ⟨iM7, fM70, eM7_2_5, eM7_1_2, eM7_1_4, eM7_1_6, eM7_11_5, eM7_10_2, eM7_10_4, eM7_10_6, eM7_20_5, eM7_19_2, eM7_19_4, eM7_19_6, eM7_29_0, eM7_29_1, eM7_31_1, pM7⟩ := q5
  have fM7 : Fr (fun c => c ≤ 96) M M7 := Fr.tr fM4 fM70 fi_10
  have q2_5_M7 : id (M7 2 5 = M 2 5) := eM7_2_5.trans q2_5_M4
  have q1_2_M7 : id (M7 1 2 = M 1 2) := eM7_1_2.trans q1_2_M4
  have q1_4_M7 : id (M7 1 4 = M 1 4) := eM7_1_4.trans q1_4_M4
  have q1_6_M7 : id (M7 1 6 = M 1 6) := eM7_1_6.trans q1_6_M4
  have q11_5_M7 : id (M7 11 5 = M 11 5) := eM7_11_5.trans q11_5_M4
  have q10_2_M7 : id (M7 10 2 = M 10 2) := eM7_10_2.trans q10_2_M4
  have q10_4_M7 : id (M7 10 4 = M 10 4) := eM7_10_4.trans q10_4_M4
  have q10_6_M7 : id (M7 10 6 = M 10 6) := eM7_10_6.trans q10_6_M4
  have q20_5_M7 : id (M7 20 5 = M 20 5) := eM7_20_5.trans q20_5_M4
  have q19_2_M7 : id (M7 19 2 = M 19 2) := eM7_19_2.trans q19_2_M4
  have q19_4_M7 : id (M7 19 4 = M 19 4) := eM7_19_4.trans q19_4_M4
  have q19_6_M7 : id (M7 19 6 = M 19 6) := eM7_19_6.trans q19_6_M4
  have q29_0_M7 : id (M7 29 0 = M 29 0) := eM7_29_0.trans q29_0_M4
  have q29_1_M7 : id (M7 29 1 = M 29 1) := eM7_29_1.trans q29_1_M4
  have wM7_31_1 : M7 31 1 = M4 31 1 := eM7_31_1
  have xM7_31_1 : M7 31 1 = 0 := eM7_31_1.trans xM4_31_1
  clear eM7_2_5 eM7_1_2 eM7_1_4 eM7_1_6 eM7_11_5 eM7_10_2 eM7_10_4 eM7_10_6 eM7_20_5 eM7_19_2 eM7_19_4 eM7_19_6 eM7_29_0 eM7_29_1
  refine g_ireturn dX9_row_18 ?_
  exact ⟨iM7, fM7, q2_5_M7, q1_2_M7, q1_4_M7, q1_6_M7, q11_5_M7, q10_2_M7, q10_4_M7, q10_6_M7, q20_5_M7, q19_2_M7, q19_4_M7, q19_6_M7, q29_0_M7, q29_1_M7, by omega⟩
set_option maxHeartbeats 4000000 in
set_option maxRecDepth 100000 in
theorem c_X9_evening (X : Cx) (M : Mm) (hi : IC M) : Con X 50 yX9_evening cX9_evening 3 (some .int) [vr X 0] M (Qi (fun r M1 => IC M1 ∧ Fr (fun c => c ≤ 96) M M1 ∧ M1 1 2 = M 1 2 ∧ M1 1 4 = M 1 4 ∧ M1 1 6 = M 1 6 ∧ M1 11 5 = M 11 5 ∧ M1 10 2 = M 10 2 ∧ M1 10 4 = M 10 4 ∧ M1 10 6 = M 10 6 ∧ M1 20 5 = M 20 5 ∧ M1 19 2 = M 19 2 ∧ M1 19 4 = M 19 4 ∧ M1 19 6 = M 19 6 ∧ M1 29 0 = M 29 0 ∧ M1 29 1 = M 29 1 ∧ (inI r ∧ M1 31 1 = 0 ∧ M1 2 5 = M 2 5))) := by
  refine Con.ofG rfl (Nat.le_of_ble_eq_true rfl) ?_
  show G X 50 RX9 cX9_evening 3 (some .int) (Qi (fun r M1 => IC M1 ∧ Fr (fun c => c ≤ 96) M M1 ∧ M1 1 2 = M 1 2 ∧ M1 1 4 = M 1 4 ∧ M1 1 6 = M 1 6 ∧ M1 11 5 = M 11 5 ∧ M1 10 2 = M 10 2 ∧ M1 10 4 = M 10 4 ∧ M1 10 6 = M 10 6 ∧ M1 20 5 = M 20 5 ∧ M1 19 2 = M 19 2 ∧ M1 19 4 = M 19 4 ∧ M1 19 6 = M 19 6 ∧ M1 29 0 = M 29 0 ∧ M1 29 1 = M 29 1 ∧ (inI r ∧ M1 31 1 = 0 ∧ M1 2 5 = M 2 5))) 0 [(0, vr X 0)] [] M
  refine g_aload_n (pc' := 1) 0 dX9_evening_0 rfl rfl ?_
  refine g_getR (pc' := 4) dX9_evening_1 rfl f_X9_27 rfl rfl ?_
  refine g_callVi (pc' := 7) (As := []) (b := 30) (S := []) dX9_evening_4 rfl m_X9_165 w_X2_readText (c_X2_readText X M hi) rfl ⟨_, _, _, rfl, rfl, rfl⟩ (by decide) (by decide) rfl (Nat.le_of_ble_eq_true rfl) (fun z2 M3 q1 => ?_)
  obtain ⟨iM3, fM30, eM3_31_1, pM3⟩ := q1
  have fM3 : Fr (fun c => c ≤ 96) M M3 := Fr.tr Fr.rf fM30 fi_13
  have q1_2_M3 : id (M3 1 2 = M 1 2) := (congrFun (fM30 1 (by first | decide | omega | (dsimp only; omega))) 2)
  have q1_4_M3 : id (M3 1 4 = M 1 4) := (congrFun (fM30 1 (by first | decide | omega | (dsimp only; omega))) 4)
  have q1_6_M3 : id (M3 1 6 = M 1 6) := (congrFun (fM30 1 (by first | decide | omega | (dsimp only; omega))) 6)
  have q11_5_M3 : id (M3 11 5 = M 11 5) := (congrFun (fM30 11 (by first | decide | omega | (dsimp only; omega))) 5)
  have q10_2_M3 : id (M3 10 2 = M 10 2) := (congrFun (fM30 10 (by first | decide | omega | (dsimp only; omega))) 2)
  have q10_4_M3 : id (M3 10 4 = M 10 4) := (congrFun (fM30 10 (by first | decide | omega | (dsimp only; omega))) 4)
  have q10_6_M3 : id (M3 10 6 = M 10 6) := (congrFun (fM30 10 (by first | decide | omega | (dsimp only; omega))) 6)
  have q20_5_M3 : id (M3 20 5 = M 20 5) := (congrFun (fM30 20 (by first | decide | omega | (dsimp only; omega))) 5)
  have q19_2_M3 : id (M3 19 2 = M 19 2) := (congrFun (fM30 19 (by first | decide | omega | (dsimp only; omega))) 2)
  have q19_4_M3 : id (M3 19 4 = M 19 4) := (congrFun (fM30 19 (by first | decide | omega | (dsimp only; omega))) 4)
  have q19_6_M3 : id (M3 19 6 = M 19 6) := (congrFun (fM30 19 (by first | decide | omega | (dsimp only; omega))) 6)
  have q29_0_M3 : id (M3 29 0 = M 29 0) := (congrFun (fM30 29 (by first | decide | omega | (dsimp only; omega))) 0)
  have q29_1_M3 : id (M3 29 1 = M 29 1) := (congrFun (fM30 29 (by first | decide | omega | (dsimp only; omega))) 1)
  have q31_1_M3 : (M3 31 1 = M 31 1) := eM3_31_1
  have q2_5_M3 : (M3 2 5 = M 2 5) := (congrFun (fM30 2 (by first | decide | omega | (dsimp only; omega))) 5)
  have wM3_31_1 : M3 31 1 = M 31 1 := eM3_31_1
  have wM3_2_5 : M3 2 5 = M 2 5 := (congrFun (fM30 2 (by first | decide | omega | (dsimp only; omega))) 5)
  refine g_istore_n (pc' := 8) (i := 1) (L' := [(1, vi z2), (0, vr X 0)]) dX9_evening_7 rfl rfl (by decide) rfl ?_
  refine g_aload_n (pc' := 9) 1 dX9_evening_8 rfl rfl ?_
  refine g_iload_n (pc' := 10) 0 dX9_evening_9 rfl rfl ?_
  refine g_if_eq (pc' := 13) (tgt := 17) ⟨by omega, by omega⟩ dX9_evening_10 rfl rfl (fun c4 => ?_) (fun c4 => ?_)
  · refine g_aload_n (pc' := 18) 1 dX9_evening_17 rfl rfl ?_
    refine g_getR (pc' := 21) dX9_evening_18 rfl f_X9_35 rfl rfl ?_
    refine g_callVip (pc' := 24) (As := []) (b := 31) (S := [vr X 0]) dX9_evening_21 rfl m_X9_169 w_X8_place (c_X8_place X M3 iM3) rfl ⟨_, _, _, rfl, rfl, rfl⟩ (by decide) (by decide) rfl (Nat.le_of_ble_eq_true rfl) (fun z6 q5 => ?_)
    refine g_putI (pc' := 27) dX9_evening_24 rfl p_X9_68 rfl rfl ⟨by omega, by omega⟩ (fun M7 hM7 => ?_)
    have iM7 : IC M7 := IC.wr iM3 hM7 (by unfold okw isT; first | decide | omega)
    have fM7 : Fr (fun c => c ≤ 96) M M7 := Fr.wr fM3 hM7 (by first | decide | omega | (dsimp only; omega))
    have q1_2_M7 : id (M7 1 2 = M 1 2) := (show M7 1 2 = M3 1 2 by rw [hM7]; exact mu_ne _ _ (by first | decide | omega)).trans q1_2_M3
    have q1_4_M7 : id (M7 1 4 = M 1 4) := (show M7 1 4 = M3 1 4 by rw [hM7]; exact mu_ne _ _ (by first | decide | omega)).trans q1_4_M3
    have q1_6_M7 : id (M7 1 6 = M 1 6) := (show M7 1 6 = M3 1 6 by rw [hM7]; exact mu_ne _ _ (by first | decide | omega)).trans q1_6_M3
    have q11_5_M7 : id (M7 11 5 = M 11 5) := (show M7 11 5 = M3 11 5 by rw [hM7]; exact mu_ne _ _ (by first | decide | omega)).trans q11_5_M3
    have q10_2_M7 : id (M7 10 2 = M 10 2) := (show M7 10 2 = M3 10 2 by rw [hM7]; exact mu_ne _ _ (by first | decide | omega)).trans q10_2_M3
    have q10_4_M7 : id (M7 10 4 = M 10 4) := (show M7 10 4 = M3 10 4 by rw [hM7]; exact mu_ne _ _ (by first | decide | omega)).trans q10_4_M3
    have q10_6_M7 : id (M7 10 6 = M 10 6) := (show M7 10 6 = M3 10 6 by rw [hM7]; exact mu_ne _ _ (by first | decide | omega)).trans q10_6_M3
    have q20_5_M7 : id (M7 20 5 = M 20 5) := (show M7 20 5 = M3 20 5 by rw [hM7]; exact mu_ne _ _ (by first | decide | omega)).trans q20_5_M3
    have q19_2_M7 : id (M7 19 2 = M 19 2) := (show M7 19 2 = M3 19 2 by rw [hM7]; exact mu_ne _ _ (by first | decide | omega)).trans q19_2_M3
    have q19_4_M7 : id (M7 19 4 = M 19 4) := (show M7 19 4 = M3 19 4 by rw [hM7]; exact mu_ne _ _ (by first | decide | omega)).trans q19_4_M3
    have q19_6_M7 : id (M7 19 6 = M 19 6) := (show M7 19 6 = M3 19 6 by rw [hM7]; exact mu_ne _ _ (by first | decide | omega)).trans q19_6_M3
    have q29_0_M7 : id (M7 29 0 = M 29 0) := (show M7 29 0 = M3 29 0 by rw [hM7]; exact mu_ne _ _ (by first | decide | omega)).trans q29_0_M3
    have q29_1_M7 : id (M7 29 1 = M 29 1) := (show M7 29 1 = M3 29 1 by rw [hM7]; exact mu_ne _ _ (by first | decide | omega)).trans q29_1_M3
    have q31_1_M7 : (M7 31 1 = M 31 1) := (show M7 31 1 = M3 31 1 by rw [hM7]; exact mu_ne _ _ (by first | decide | omega)).trans q31_1_M3
    have q2_5_M7 : (M7 2 5 = M 2 5) := (show M7 2 5 = M3 2 5 by rw [hM7]; exact mu_ne _ _ (by first | decide | omega)).trans q2_5_M3
    have wM7_31_1 : M7 31 1 = M3 31 1 := by rw [hM7]; exact mu_ne _ _ (by first | decide | omega)
    have wM7_2_5 : M7 2 5 = M3 2 5 := by rw [hM7]; exact mu_ne _ _ (by first | decide | omega)
    have xM7_0_12 : M7 0 12 = z6 := by rw [hM7]; exact mu_at _ _ _ _
    refine g_aload_n (pc' := 28) 1 dX9_evening_27 rfl rfl ?_
    refine g_getR (pc' := 31) dX9_evening_28 rfl f_X9_35 rfl rfl ?_
    refine g_iconst (pc' := 32) dX9_evening_31 rfl ?_
    refine g_putI (pc' := 35) dX9_evening_32 rfl p_X9_147 rfl rfl (by decide) (fun M8 hM8 => ?_)
    have iM8 : IC M8 := IC.wr iM7 hM8 (by unfold okw isT; first | decide | omega)
    have fM8 : Fr (fun c => c ≤ 96) M M8 := Fr.wr fM7 hM8 (by first | decide | omega | (dsimp only; omega))
    have q1_2_M8 : id (M8 1 2 = M 1 2) := (show M8 1 2 = M7 1 2 by rw [hM8]; exact mu_ne _ _ (by first | decide | omega)).trans q1_2_M7
    have q1_4_M8 : id (M8 1 4 = M 1 4) := (show M8 1 4 = M7 1 4 by rw [hM8]; exact mu_ne _ _ (by first | decide | omega)).trans q1_4_M7
    have q1_6_M8 : id (M8 1 6 = M 1 6) := (show M8 1 6 = M7 1 6 by rw [hM8]; exact mu_ne _ _ (by first | decide | omega)).trans q1_6_M7
    have q11_5_M8 : id (M8 11 5 = M 11 5) := (show M8 11 5 = M7 11 5 by rw [hM8]; exact mu_ne _ _ (by first | decide | omega)).trans q11_5_M7
    have q10_2_M8 : id (M8 10 2 = M 10 2) := (show M8 10 2 = M7 10 2 by rw [hM8]; exact mu_ne _ _ (by first | decide | omega)).trans q10_2_M7
    have q10_4_M8 : id (M8 10 4 = M 10 4) := (show M8 10 4 = M7 10 4 by rw [hM8]; exact mu_ne _ _ (by first | decide | omega)).trans q10_4_M7
    have q10_6_M8 : id (M8 10 6 = M 10 6) := (show M8 10 6 = M7 10 6 by rw [hM8]; exact mu_ne _ _ (by first | decide | omega)).trans q10_6_M7
    have q20_5_M8 : id (M8 20 5 = M 20 5) := (show M8 20 5 = M7 20 5 by rw [hM8]; exact mu_ne _ _ (by first | decide | omega)).trans q20_5_M7
    have q19_2_M8 : id (M8 19 2 = M 19 2) := (show M8 19 2 = M7 19 2 by rw [hM8]; exact mu_ne _ _ (by first | decide | omega)).trans q19_2_M7
    have q19_4_M8 : id (M8 19 4 = M 19 4) := (show M8 19 4 = M7 19 4 by rw [hM8]; exact mu_ne _ _ (by first | decide | omega)).trans q19_4_M7
    have q19_6_M8 : id (M8 19 6 = M 19 6) := (show M8 19 6 = M7 19 6 by rw [hM8]; exact mu_ne _ _ (by first | decide | omega)).trans q19_6_M7
    have q29_0_M8 : id (M8 29 0 = M 29 0) := (show M8 29 0 = M7 29 0 by rw [hM8]; exact mu_ne _ _ (by first | decide | omega)).trans q29_0_M7
    have q29_1_M8 : id (M8 29 1 = M 29 1) := (show M8 29 1 = M7 29 1 by rw [hM8]; exact mu_ne _ _ (by first | decide | omega)).trans q29_1_M7
    have q2_5_M8 : (M8 2 5 = M 2 5) := (show M8 2 5 = M7 2 5 by rw [hM8]; exact mu_ne _ _ (by first | decide | omega)).trans q2_5_M7
    have wM8_2_5 : M8 2 5 = M7 2 5 := by rw [hM8]; exact mu_ne _ _ (by first | decide | omega)
    have xM8_0_12 : M8 0 12 = z6 := (show M8 0 12 = M7 0 12 by rw [hM8]; exact mu_ne _ _ (by first | decide | omega)).trans xM7_0_12
    have xM8_31_1 : M8 31 1 = 0 := by rw [hM8]; exact mu_at _ _ _ _
    refine g_aload_n (pc' := 36) 1 dX9_evening_35 rfl rfl ?_
    refine g_iconst (pc' := 37) dX9_evening_36 rfl ?_
    refine g_putI (pc' := 40) dX9_evening_37 rfl p_X9_72 rfl rfl (by decide) (fun M9 hM9 => ?_)
    have iM9 : IC M9 := IC.wr iM8 hM9 (by unfold okw isT; first | decide | omega)
    have fM9 : Fr (fun c => c ≤ 96) M M9 := Fr.wr fM8 hM9 (by first | decide | omega | (dsimp only; omega))
    have q1_2_M9 : id (M9 1 2 = M 1 2) := (show M9 1 2 = M8 1 2 by rw [hM9]; exact mu_ne _ _ (by first | decide | omega)).trans q1_2_M8
    have q1_4_M9 : id (M9 1 4 = M 1 4) := (show M9 1 4 = M8 1 4 by rw [hM9]; exact mu_ne _ _ (by first | decide | omega)).trans q1_4_M8
    have q1_6_M9 : id (M9 1 6 = M 1 6) := (show M9 1 6 = M8 1 6 by rw [hM9]; exact mu_ne _ _ (by first | decide | omega)).trans q1_6_M8
    have q11_5_M9 : id (M9 11 5 = M 11 5) := (show M9 11 5 = M8 11 5 by rw [hM9]; exact mu_ne _ _ (by first | decide | omega)).trans q11_5_M8
    have q10_2_M9 : id (M9 10 2 = M 10 2) := (show M9 10 2 = M8 10 2 by rw [hM9]; exact mu_ne _ _ (by first | decide | omega)).trans q10_2_M8
    have q10_4_M9 : id (M9 10 4 = M 10 4) := (show M9 10 4 = M8 10 4 by rw [hM9]; exact mu_ne _ _ (by first | decide | omega)).trans q10_4_M8
    have q10_6_M9 : id (M9 10 6 = M 10 6) := (show M9 10 6 = M8 10 6 by rw [hM9]; exact mu_ne _ _ (by first | decide | omega)).trans q10_6_M8
    have q20_5_M9 : id (M9 20 5 = M 20 5) := (show M9 20 5 = M8 20 5 by rw [hM9]; exact mu_ne _ _ (by first | decide | omega)).trans q20_5_M8
    have q19_2_M9 : id (M9 19 2 = M 19 2) := (show M9 19 2 = M8 19 2 by rw [hM9]; exact mu_ne _ _ (by first | decide | omega)).trans q19_2_M8
    have q19_4_M9 : id (M9 19 4 = M 19 4) := (show M9 19 4 = M8 19 4 by rw [hM9]; exact mu_ne _ _ (by first | decide | omega)).trans q19_4_M8
    have q19_6_M9 : id (M9 19 6 = M 19 6) := (show M9 19 6 = M8 19 6 by rw [hM9]; exact mu_ne _ _ (by first | decide | omega)).trans q19_6_M8
    have q29_0_M9 : id (M9 29 0 = M 29 0) := (show M9 29 0 = M8 29 0 by rw [hM9]; exact mu_ne _ _ (by first | decide | omega)).trans q29_0_M8
    have q29_1_M9 : id (M9 29 1 = M 29 1) := (show M9 29 1 = M8 29 1 by rw [hM9]; exact mu_ne _ _ (by first | decide | omega)).trans q29_1_M8
    have q2_5_M9 : (M9 2 5 = M 2 5) := (show M9 2 5 = M8 2 5 by rw [hM9]; exact mu_ne _ _ (by first | decide | omega)).trans q2_5_M8
    have wM9_31_1 : M9 31 1 = M8 31 1 := by rw [hM9]; exact mu_ne _ _ (by first | decide | omega)
    have wM9_2_5 : M9 2 5 = M8 2 5 := by rw [hM9]; exact mu_ne _ _ (by first | decide | omega)
    have xM9_0_12 : M9 0 12 = z6 := (show M9 0 12 = M8 0 12 by rw [hM9]; exact mu_ne _ _ (by first | decide | omega)).trans xM8_0_12
    have xM9_31_1 : M9 31 1 = 0 := (show M9 31 1 = M8 31 1 by rw [hM9]; exact mu_ne _ _ (by first | decide | omega)).trans xM8_31_1
    have xM9_0_13 : M9 0 13 = (-1) := by rw [hM9]; exact mu_at _ _ _ _
    refine g_iload_n (pc' := 41) 0 dX9_evening_40 rfl rfl ?_
    refine g_if_ne (pc' := 44) (tgt := 51) ⟨by omega, by omega⟩ dX9_evening_41 rfl rfl (fun c10 => ?_) (fun c10 => ?_)
    · refine g_aload_n (pc' := 52) 1 dX9_evening_51 rfl rfl ?_
      refine g_getR (pc' := 55) dX9_evening_52 rfl f_X9_39 rfl rfl ?_
      refine g_aload_n (pc' := 56) 1 dX9_evening_55 rfl rfl ?_
      refine g_getR (pc' := 59) dX9_evening_56 rfl f_X9_27 rfl rfl ?_
      refine g_getR (pc' := 62) dX9_evening_59 rfl f_X9_172 rfl rfl ?_
      refine g_aload_n (pc' := 63) 1 dX9_evening_62 rfl rfl ?_
      refine g_getR (pc' := 66) dX9_evening_63 rfl f_X9_12 rfl rfl ?_
      refine g_getR (pc' := 69) dX9_evening_66 rfl f_X9_86 rfl rfl ?_
      refine g_callVi (pc' := 72) (As := [vr X 37, vr X 2]) (b := 53) (S := []) dX9_evening_69 rfl m_X9_176 w_X3_run (c_X3_run X M9 iM9) rfl ⟨_, _, _, rfl, rfl, rfl⟩ (by decide) (by decide) rfl (Nat.le_of_ble_eq_true rfl) (fun z12 M13 q11 => ?_)
      obtain ⟨iM13, fM130, pM13⟩ := q11
      have fM13 : Fr (fun c => c ≤ 96) M M13 := Fr.tr fM9 fM130 fi_14
      have q1_2_M13 : id (M13 1 2 = M 1 2) := (congrFun (fM130 1 (by first | decide | omega | (dsimp only; omega))) 2).trans q1_2_M9
      have q1_4_M13 : id (M13 1 4 = M 1 4) := (congrFun (fM130 1 (by first | decide | omega | (dsimp only; omega))) 4).trans q1_4_M9
      have q1_6_M13 : id (M13 1 6 = M 1 6) := (congrFun (fM130 1 (by first | decide | omega | (dsimp only; omega))) 6).trans q1_6_M9
      have q11_5_M13 : id (M13 11 5 = M 11 5) := (congrFun (fM130 11 (by first | decide | omega | (dsimp only; omega))) 5).trans q11_5_M9
      have q10_2_M13 : id (M13 10 2 = M 10 2) := (congrFun (fM130 10 (by first | decide | omega | (dsimp only; omega))) 2).trans q10_2_M9
      have q10_4_M13 : id (M13 10 4 = M 10 4) := (congrFun (fM130 10 (by first | decide | omega | (dsimp only; omega))) 4).trans q10_4_M9
      have q10_6_M13 : id (M13 10 6 = M 10 6) := (congrFun (fM130 10 (by first | decide | omega | (dsimp only; omega))) 6).trans q10_6_M9
      have q20_5_M13 : id (M13 20 5 = M 20 5) := (congrFun (fM130 20 (by first | decide | omega | (dsimp only; omega))) 5).trans q20_5_M9
      have q19_2_M13 : id (M13 19 2 = M 19 2) := (congrFun (fM130 19 (by first | decide | omega | (dsimp only; omega))) 2).trans q19_2_M9
      have q19_4_M13 : id (M13 19 4 = M 19 4) := (congrFun (fM130 19 (by first | decide | omega | (dsimp only; omega))) 4).trans q19_4_M9
      have q19_6_M13 : id (M13 19 6 = M 19 6) := (congrFun (fM130 19 (by first | decide | omega | (dsimp only; omega))) 6).trans q19_6_M9
      have q29_0_M13 : id (M13 29 0 = M 29 0) := (congrFun (fM130 29 (by first | decide | omega | (dsimp only; omega))) 0).trans q29_0_M9
      have q29_1_M13 : id (M13 29 1 = M 29 1) := (congrFun (fM130 29 (by first | decide | omega | (dsimp only; omega))) 1).trans q29_1_M9
      have wM13_31_1 : M13 31 1 = M9 31 1 := (congrFun (fM130 31 (by first | decide | omega | (dsimp only; omega))) 1)
      have xM13_0_12 : M13 0 12 = z6 := (congrFun (fM130 0 (by first | decide | omega | (dsimp only; omega))) 12).trans xM9_0_12
      have xM13_31_1 : M13 31 1 = 0 := (congrFun (fM130 31 (by first | decide | omega | (dsimp only; omega))) 1).trans xM9_31_1
      have xM13_0_13 : M13 0 13 = (-1) := (congrFun (fM130 0 (by first | decide | omega | (dsimp only; omega))) 13).trans xM9_0_13
      refine g_istore_n (pc' := 73) (i := 2) (L' := [(2, vi z12), (1, vi z2), (0, vr X 0)]) dX9_evening_72 rfl rfl (by decide) rfl ?_
      refine g_iload_n (pc' := 74) 0 dX9_evening_73 rfl rfl ?_
      refine g_if_ge (pc' := 77) (tgt := 88) ⟨by omega, by omega⟩ dX9_evening_74 rfl rfl (fun c14 => ?_) (fun c14 => ?_)
      · refine g_aload_n (pc' := 89) 2 dX9_evening_88 rfl rfl ?_
        refine g_iload_n (pc' := 90) 0 dX9_evening_89 rfl rfl ?_
        refine g_callVi (pc' := 93) (As := [vi z12]) (b := 0) (S := []) dX9_evening_90 rfl m_X9_79 w_X9_answered (c_X9_answered X M13 iM13 z12 ⟨by omega, by omega⟩) rfl ⟨_, _, _, rfl, rfl, rfl⟩ (by decide) (by decide) rfl (Nat.le_of_ble_eq_true rfl) (fun z16 M17 q15 => ?_)
        obtain ⟨iM17, fM170, eM17_2_5, eM17_1_2, eM17_1_4, eM17_1_6, eM17_11_5, eM17_10_2, eM17_10_4, eM17_10_6, eM17_20_5, eM17_19_2, eM17_19_4, eM17_19_6, eM17_29_0, eM17_29_1, eM17_31_1, pM17⟩ := q15
        have fM17 : Fr (fun c => c ≤ 96) M M17 := Fr.tr fM13 fM170 fi_10
        have q1_2_M17 : id (M17 1 2 = M 1 2) := eM17_1_2.trans q1_2_M13
        have q1_4_M17 : id (M17 1 4 = M 1 4) := eM17_1_4.trans q1_4_M13
        have q1_6_M17 : id (M17 1 6 = M 1 6) := eM17_1_6.trans q1_6_M13
        have q11_5_M17 : id (M17 11 5 = M 11 5) := eM17_11_5.trans q11_5_M13
        have q10_2_M17 : id (M17 10 2 = M 10 2) := eM17_10_2.trans q10_2_M13
        have q10_4_M17 : id (M17 10 4 = M 10 4) := eM17_10_4.trans q10_4_M13
        have q10_6_M17 : id (M17 10 6 = M 10 6) := eM17_10_6.trans q10_6_M13
        have q20_5_M17 : id (M17 20 5 = M 20 5) := eM17_20_5.trans q20_5_M13
        have q19_2_M17 : id (M17 19 2 = M 19 2) := eM17_19_2.trans q19_2_M13
        have q19_4_M17 : id (M17 19 4 = M 19 4) := eM17_19_4.trans q19_4_M13
        have q19_6_M17 : id (M17 19 6 = M 19 6) := eM17_19_6.trans q19_6_M13
        have q29_0_M17 : id (M17 29 0 = M 29 0) := eM17_29_0.trans q29_0_M13
        have q29_1_M17 : id (M17 29 1 = M 29 1) := eM17_29_1.trans q29_1_M13
        have wM17_31_1 : M17 31 1 = M13 31 1 := eM17_31_1
        have wM17_2_5 : M17 2 5 = M13 2 5 := eM17_2_5
        have xM17_31_1 : M17 31 1 = 0 := eM17_31_1.trans xM13_31_1
        clear eM17_1_2 eM17_1_4 eM17_1_6 eM17_11_5 eM17_10_2 eM17_10_4 eM17_10_6 eM17_20_5 eM17_19_2 eM17_19_4 eM17_19_6 eM17_29_0 eM17_29_1
        refine g_ireturn dX9_evening_93 ?_
        exact ⟨iM17, fM17, q1_2_M17, q1_4_M17, q1_6_M17, q11_5_M17, q10_2_M17, q10_4_M17, q10_6_M17, q20_5_M17, q19_2_M17, q19_4_M17, q19_6_M17, q29_0_M17, q29_1_M17, by omega⟩
      · refine g_aload_n (pc' := 78) 2 dX9_evening_77 rfl rfl ?_
        refine g_aload_n (pc' := 79) 2 dX9_evening_78 rfl rfl ?_
        refine g_getR (pc' := 82) dX9_evening_79 rfl f_X9_39 rfl rfl ?_
        refine g_getI (pc' := 85) dX9_evening_82 rfl f_X9_180 rfl rfl (fun v18 ev18 rv18 => ?_)
        refine g_putI (pc' := 88) dX9_evening_85 rfl p_X9_72 rfl rfl rv18 (fun M19 hM19 => ?_)
        have iM19 : IC M19 := IC.wr iM13 hM19 (by unfold okw isT; first | decide | omega)
        have fM19 : Fr (fun c => c ≤ 96) M M19 := Fr.wr fM13 hM19 (by first | decide | omega | (dsimp only; omega))
        have q1_2_M19 : id (M19 1 2 = M 1 2) := (show M19 1 2 = M13 1 2 by rw [hM19]; exact mu_ne _ _ (by first | decide | omega)).trans q1_2_M13
        have q1_4_M19 : id (M19 1 4 = M 1 4) := (show M19 1 4 = M13 1 4 by rw [hM19]; exact mu_ne _ _ (by first | decide | omega)).trans q1_4_M13
        have q1_6_M19 : id (M19 1 6 = M 1 6) := (show M19 1 6 = M13 1 6 by rw [hM19]; exact mu_ne _ _ (by first | decide | omega)).trans q1_6_M13
        have q11_5_M19 : id (M19 11 5 = M 11 5) := (show M19 11 5 = M13 11 5 by rw [hM19]; exact mu_ne _ _ (by first | decide | omega)).trans q11_5_M13
        have q10_2_M19 : id (M19 10 2 = M 10 2) := (show M19 10 2 = M13 10 2 by rw [hM19]; exact mu_ne _ _ (by first | decide | omega)).trans q10_2_M13
        have q10_4_M19 : id (M19 10 4 = M 10 4) := (show M19 10 4 = M13 10 4 by rw [hM19]; exact mu_ne _ _ (by first | decide | omega)).trans q10_4_M13
        have q10_6_M19 : id (M19 10 6 = M 10 6) := (show M19 10 6 = M13 10 6 by rw [hM19]; exact mu_ne _ _ (by first | decide | omega)).trans q10_6_M13
        have q20_5_M19 : id (M19 20 5 = M 20 5) := (show M19 20 5 = M13 20 5 by rw [hM19]; exact mu_ne _ _ (by first | decide | omega)).trans q20_5_M13
        have q19_2_M19 : id (M19 19 2 = M 19 2) := (show M19 19 2 = M13 19 2 by rw [hM19]; exact mu_ne _ _ (by first | decide | omega)).trans q19_2_M13
        have q19_4_M19 : id (M19 19 4 = M 19 4) := (show M19 19 4 = M13 19 4 by rw [hM19]; exact mu_ne _ _ (by first | decide | omega)).trans q19_4_M13
        have q19_6_M19 : id (M19 19 6 = M 19 6) := (show M19 19 6 = M13 19 6 by rw [hM19]; exact mu_ne _ _ (by first | decide | omega)).trans q19_6_M13
        have q29_0_M19 : id (M19 29 0 = M 29 0) := (show M19 29 0 = M13 29 0 by rw [hM19]; exact mu_ne _ _ (by first | decide | omega)).trans q29_0_M13
        have q29_1_M19 : id (M19 29 1 = M 29 1) := (show M19 29 1 = M13 29 1 by rw [hM19]; exact mu_ne _ _ (by first | decide | omega)).trans q29_1_M13
        have wM19_31_1 : M19 31 1 = M13 31 1 := by rw [hM19]; exact mu_ne _ _ (by first | decide | omega)
        have wM19_2_5 : M19 2 5 = M13 2 5 := by rw [hM19]; exact mu_ne _ _ (by first | decide | omega)
        have xM19_0_12 : M19 0 12 = z6 := (show M19 0 12 = M13 0 12 by rw [hM19]; exact mu_ne _ _ (by first | decide | omega)).trans xM13_0_12
        have xM19_31_1 : M19 31 1 = 0 := (show M19 31 1 = M13 31 1 by rw [hM19]; exact mu_ne _ _ (by first | decide | omega)).trans xM13_31_1
        have xM19_0_13 : M19 0 13 = v18 := by rw [hM19]; exact mu_at _ _ _ _
        refine g_aload_n (pc' := 89) 2 dX9_evening_88 rfl rfl ?_
        refine g_iload_n (pc' := 90) 0 dX9_evening_89 rfl rfl ?_
        refine g_callVi (pc' := 93) (As := [vi z12]) (b := 0) (S := []) dX9_evening_90 rfl m_X9_79 w_X9_answered (c_X9_answered X M19 iM19 z12 ⟨by omega, by omega⟩) rfl ⟨_, _, _, rfl, rfl, rfl⟩ (by decide) (by decide) rfl (Nat.le_of_ble_eq_true rfl) (fun z21 M22 q20 => ?_)
        obtain ⟨iM22, fM220, eM22_2_5, eM22_1_2, eM22_1_4, eM22_1_6, eM22_11_5, eM22_10_2, eM22_10_4, eM22_10_6, eM22_20_5, eM22_19_2, eM22_19_4, eM22_19_6, eM22_29_0, eM22_29_1, eM22_31_1, pM22⟩ := q20
        have fM22 : Fr (fun c => c ≤ 96) M M22 := Fr.tr fM19 fM220 fi_10
        have q1_2_M22 : id (M22 1 2 = M 1 2) := eM22_1_2.trans q1_2_M19
        have q1_4_M22 : id (M22 1 4 = M 1 4) := eM22_1_4.trans q1_4_M19
        have q1_6_M22 : id (M22 1 6 = M 1 6) := eM22_1_6.trans q1_6_M19
        have q11_5_M22 : id (M22 11 5 = M 11 5) := eM22_11_5.trans q11_5_M19
        have q10_2_M22 : id (M22 10 2 = M 10 2) := eM22_10_2.trans q10_2_M19
        have q10_4_M22 : id (M22 10 4 = M 10 4) := eM22_10_4.trans q10_4_M19
        have q10_6_M22 : id (M22 10 6 = M 10 6) := eM22_10_6.trans q10_6_M19
        have q20_5_M22 : id (M22 20 5 = M 20 5) := eM22_20_5.trans q20_5_M19
        have q19_2_M22 : id (M22 19 2 = M 19 2) := eM22_19_2.trans q19_2_M19
        have q19_4_M22 : id (M22 19 4 = M 19 4) := eM22_19_4.trans q19_4_M19
        have q19_6_M22 : id (M22 19 6 = M 19 6) := eM22_19_6.trans q19_6_M19
        have q29_0_M22 : id (M22 29 0 = M 29 0) := eM22_29_0.trans q29_0_M19
        have q29_1_M22 : id (M22 29 1 = M 29 1) := eM22_29_1.trans q29_1_M19
        have wM22_31_1 : M22 31 1 = M19 31 1 := eM22_31_1
        have wM22_2_5 : M22 2 5 = M19 2 5 := eM22_2_5
        have xM22_31_1 : M22 31 1 = 0 := eM22_31_1.trans xM19_31_1
        clear eM22_1_2 eM22_1_4 eM22_1_6 eM22_11_5 eM22_10_2 eM22_10_4 eM22_10_6 eM22_20_5 eM22_19_2 eM22_19_4 eM22_19_6 eM22_29_0 eM22_29_1
        refine g_ireturn dX9_evening_93 ?_
        exact ⟨iM22, fM22, q1_2_M22, q1_4_M22, q1_6_M22, q11_5_M22, q10_2_M22, q10_4_M22, q10_6_M22, q20_5_M22, q19_2_M22, q19_4_M22, q19_6_M22, q29_0_M22, q29_1_M22, by omega⟩
    · refine g_aload_n (pc' := 45) 1 dX9_evening_44 rfl rfl ?_
      refine g_bipush (pc' := 47) (v := (-6)) dX9_evening_45 rfl (by decide) ?_
      refine g_callVi (pc' := 50) (As := [vi (-6)]) (b := 0) (S := []) dX9_evening_47 rfl m_X9_79 w_X9_answered (c_X9_answered X M9 iM9 (-6) (by decide)) rfl ⟨_, _, _, rfl, rfl, rfl⟩ (by decide) (by decide) rfl (Nat.le_of_ble_eq_true rfl) (fun z24 M25 q23 => ?_)
      obtain ⟨iM25, fM250, eM25_2_5, eM25_1_2, eM25_1_4, eM25_1_6, eM25_11_5, eM25_10_2, eM25_10_4, eM25_10_6, eM25_20_5, eM25_19_2, eM25_19_4, eM25_19_6, eM25_29_0, eM25_29_1, eM25_31_1, pM25⟩ := q23
      have fM25 : Fr (fun c => c ≤ 96) M M25 := Fr.tr fM9 fM250 fi_10
      have q1_2_M25 : id (M25 1 2 = M 1 2) := eM25_1_2.trans q1_2_M9
      have q1_4_M25 : id (M25 1 4 = M 1 4) := eM25_1_4.trans q1_4_M9
      have q1_6_M25 : id (M25 1 6 = M 1 6) := eM25_1_6.trans q1_6_M9
      have q11_5_M25 : id (M25 11 5 = M 11 5) := eM25_11_5.trans q11_5_M9
      have q10_2_M25 : id (M25 10 2 = M 10 2) := eM25_10_2.trans q10_2_M9
      have q10_4_M25 : id (M25 10 4 = M 10 4) := eM25_10_4.trans q10_4_M9
      have q10_6_M25 : id (M25 10 6 = M 10 6) := eM25_10_6.trans q10_6_M9
      have q20_5_M25 : id (M25 20 5 = M 20 5) := eM25_20_5.trans q20_5_M9
      have q19_2_M25 : id (M25 19 2 = M 19 2) := eM25_19_2.trans q19_2_M9
      have q19_4_M25 : id (M25 19 4 = M 19 4) := eM25_19_4.trans q19_4_M9
      have q19_6_M25 : id (M25 19 6 = M 19 6) := eM25_19_6.trans q19_6_M9
      have q29_0_M25 : id (M25 29 0 = M 29 0) := eM25_29_0.trans q29_0_M9
      have q29_1_M25 : id (M25 29 1 = M 29 1) := eM25_29_1.trans q29_1_M9
      have q2_5_M25 : (M25 2 5 = M 2 5) := eM25_2_5.trans q2_5_M9
      have wM25_31_1 : M25 31 1 = M9 31 1 := eM25_31_1
      have wM25_2_5 : M25 2 5 = M9 2 5 := eM25_2_5
      have xM25_31_1 : M25 31 1 = 0 := eM25_31_1.trans xM9_31_1
      clear eM25_1_2 eM25_1_4 eM25_1_6 eM25_11_5 eM25_10_2 eM25_10_4 eM25_10_6 eM25_20_5 eM25_19_2 eM25_19_4 eM25_19_6 eM25_29_0 eM25_29_1
      refine g_ireturn dX9_evening_50 ?_
      exact ⟨iM25, fM25, q1_2_M25, q1_4_M25, q1_6_M25, q11_5_M25, q10_2_M25, q10_4_M25, q10_6_M25, q20_5_M25, q19_2_M25, q19_4_M25, q19_6_M25, q29_0_M25, q29_1_M25, by omega⟩
  · refine g_iconst (pc' := 14) dX9_evening_13 rfl ?_
    refine g_goto (tgt := 24) dX9_evening_14 rfl ?_
    refine g_putI (pc' := 27) dX9_evening_24 rfl p_X9_68 rfl rfl (by decide) (fun M26 hM26 => ?_)
    have iM26 : IC M26 := IC.wr iM3 hM26 (by unfold okw isT; first | decide | omega)
    have fM26 : Fr (fun c => c ≤ 96) M M26 := Fr.wr fM3 hM26 (by first | decide | omega | (dsimp only; omega))
    have q1_2_M26 : id (M26 1 2 = M 1 2) := (show M26 1 2 = M3 1 2 by rw [hM26]; exact mu_ne _ _ (by first | decide | omega)).trans q1_2_M3
    have q1_4_M26 : id (M26 1 4 = M 1 4) := (show M26 1 4 = M3 1 4 by rw [hM26]; exact mu_ne _ _ (by first | decide | omega)).trans q1_4_M3
    have q1_6_M26 : id (M26 1 6 = M 1 6) := (show M26 1 6 = M3 1 6 by rw [hM26]; exact mu_ne _ _ (by first | decide | omega)).trans q1_6_M3
    have q11_5_M26 : id (M26 11 5 = M 11 5) := (show M26 11 5 = M3 11 5 by rw [hM26]; exact mu_ne _ _ (by first | decide | omega)).trans q11_5_M3
    have q10_2_M26 : id (M26 10 2 = M 10 2) := (show M26 10 2 = M3 10 2 by rw [hM26]; exact mu_ne _ _ (by first | decide | omega)).trans q10_2_M3
    have q10_4_M26 : id (M26 10 4 = M 10 4) := (show M26 10 4 = M3 10 4 by rw [hM26]; exact mu_ne _ _ (by first | decide | omega)).trans q10_4_M3
    have q10_6_M26 : id (M26 10 6 = M 10 6) := (show M26 10 6 = M3 10 6 by rw [hM26]; exact mu_ne _ _ (by first | decide | omega)).trans q10_6_M3
    have q20_5_M26 : id (M26 20 5 = M 20 5) := (show M26 20 5 = M3 20 5 by rw [hM26]; exact mu_ne _ _ (by first | decide | omega)).trans q20_5_M3
    have q19_2_M26 : id (M26 19 2 = M 19 2) := (show M26 19 2 = M3 19 2 by rw [hM26]; exact mu_ne _ _ (by first | decide | omega)).trans q19_2_M3
    have q19_4_M26 : id (M26 19 4 = M 19 4) := (show M26 19 4 = M3 19 4 by rw [hM26]; exact mu_ne _ _ (by first | decide | omega)).trans q19_4_M3
    have q19_6_M26 : id (M26 19 6 = M 19 6) := (show M26 19 6 = M3 19 6 by rw [hM26]; exact mu_ne _ _ (by first | decide | omega)).trans q19_6_M3
    have q29_0_M26 : id (M26 29 0 = M 29 0) := (show M26 29 0 = M3 29 0 by rw [hM26]; exact mu_ne _ _ (by first | decide | omega)).trans q29_0_M3
    have q29_1_M26 : id (M26 29 1 = M 29 1) := (show M26 29 1 = M3 29 1 by rw [hM26]; exact mu_ne _ _ (by first | decide | omega)).trans q29_1_M3
    have q31_1_M26 : (M26 31 1 = M 31 1) := (show M26 31 1 = M3 31 1 by rw [hM26]; exact mu_ne _ _ (by first | decide | omega)).trans q31_1_M3
    have q2_5_M26 : (M26 2 5 = M 2 5) := (show M26 2 5 = M3 2 5 by rw [hM26]; exact mu_ne _ _ (by first | decide | omega)).trans q2_5_M3
    have wM26_31_1 : M26 31 1 = M3 31 1 := by rw [hM26]; exact mu_ne _ _ (by first | decide | omega)
    have wM26_2_5 : M26 2 5 = M3 2 5 := by rw [hM26]; exact mu_ne _ _ (by first | decide | omega)
    have xM26_0_12 : M26 0 12 = (-1) := by rw [hM26]; exact mu_at _ _ _ _
    refine g_aload_n (pc' := 28) 1 dX9_evening_27 rfl rfl ?_
    refine g_getR (pc' := 31) dX9_evening_28 rfl f_X9_35 rfl rfl ?_
    refine g_iconst (pc' := 32) dX9_evening_31 rfl ?_
    refine g_putI (pc' := 35) dX9_evening_32 rfl p_X9_147 rfl rfl (by decide) (fun M27 hM27 => ?_)
    have iM27 : IC M27 := IC.wr iM26 hM27 (by unfold okw isT; first | decide | omega)
    have fM27 : Fr (fun c => c ≤ 96) M M27 := Fr.wr fM26 hM27 (by first | decide | omega | (dsimp only; omega))
    have q1_2_M27 : id (M27 1 2 = M 1 2) := (show M27 1 2 = M26 1 2 by rw [hM27]; exact mu_ne _ _ (by first | decide | omega)).trans q1_2_M26
    have q1_4_M27 : id (M27 1 4 = M 1 4) := (show M27 1 4 = M26 1 4 by rw [hM27]; exact mu_ne _ _ (by first | decide | omega)).trans q1_4_M26
    have q1_6_M27 : id (M27 1 6 = M 1 6) := (show M27 1 6 = M26 1 6 by rw [hM27]; exact mu_ne _ _ (by first | decide | omega)).trans q1_6_M26
    have q11_5_M27 : id (M27 11 5 = M 11 5) := (show M27 11 5 = M26 11 5 by rw [hM27]; exact mu_ne _ _ (by first | decide | omega)).trans q11_5_M26
    have q10_2_M27 : id (M27 10 2 = M 10 2) := (show M27 10 2 = M26 10 2 by rw [hM27]; exact mu_ne _ _ (by first | decide | omega)).trans q10_2_M26
    have q10_4_M27 : id (M27 10 4 = M 10 4) := (show M27 10 4 = M26 10 4 by rw [hM27]; exact mu_ne _ _ (by first | decide | omega)).trans q10_4_M26
    have q10_6_M27 : id (M27 10 6 = M 10 6) := (show M27 10 6 = M26 10 6 by rw [hM27]; exact mu_ne _ _ (by first | decide | omega)).trans q10_6_M26
    have q20_5_M27 : id (M27 20 5 = M 20 5) := (show M27 20 5 = M26 20 5 by rw [hM27]; exact mu_ne _ _ (by first | decide | omega)).trans q20_5_M26
    have q19_2_M27 : id (M27 19 2 = M 19 2) := (show M27 19 2 = M26 19 2 by rw [hM27]; exact mu_ne _ _ (by first | decide | omega)).trans q19_2_M26
    have q19_4_M27 : id (M27 19 4 = M 19 4) := (show M27 19 4 = M26 19 4 by rw [hM27]; exact mu_ne _ _ (by first | decide | omega)).trans q19_4_M26
    have q19_6_M27 : id (M27 19 6 = M 19 6) := (show M27 19 6 = M26 19 6 by rw [hM27]; exact mu_ne _ _ (by first | decide | omega)).trans q19_6_M26
    have q29_0_M27 : id (M27 29 0 = M 29 0) := (show M27 29 0 = M26 29 0 by rw [hM27]; exact mu_ne _ _ (by first | decide | omega)).trans q29_0_M26
    have q29_1_M27 : id (M27 29 1 = M 29 1) := (show M27 29 1 = M26 29 1 by rw [hM27]; exact mu_ne _ _ (by first | decide | omega)).trans q29_1_M26
    have q2_5_M27 : (M27 2 5 = M 2 5) := (show M27 2 5 = M26 2 5 by rw [hM27]; exact mu_ne _ _ (by first | decide | omega)).trans q2_5_M26
    have wM27_2_5 : M27 2 5 = M26 2 5 := by rw [hM27]; exact mu_ne _ _ (by first | decide | omega)
    have xM27_0_12 : M27 0 12 = (-1) := (show M27 0 12 = M26 0 12 by rw [hM27]; exact mu_ne _ _ (by first | decide | omega)).trans xM26_0_12
    have xM27_31_1 : M27 31 1 = 0 := by rw [hM27]; exact mu_at _ _ _ _
    refine g_aload_n (pc' := 36) 1 dX9_evening_35 rfl rfl ?_
    refine g_iconst (pc' := 37) dX9_evening_36 rfl ?_
    refine g_putI (pc' := 40) dX9_evening_37 rfl p_X9_72 rfl rfl (by decide) (fun M28 hM28 => ?_)
    have iM28 : IC M28 := IC.wr iM27 hM28 (by unfold okw isT; first | decide | omega)
    have fM28 : Fr (fun c => c ≤ 96) M M28 := Fr.wr fM27 hM28 (by first | decide | omega | (dsimp only; omega))
    have q1_2_M28 : id (M28 1 2 = M 1 2) := (show M28 1 2 = M27 1 2 by rw [hM28]; exact mu_ne _ _ (by first | decide | omega)).trans q1_2_M27
    have q1_4_M28 : id (M28 1 4 = M 1 4) := (show M28 1 4 = M27 1 4 by rw [hM28]; exact mu_ne _ _ (by first | decide | omega)).trans q1_4_M27
    have q1_6_M28 : id (M28 1 6 = M 1 6) := (show M28 1 6 = M27 1 6 by rw [hM28]; exact mu_ne _ _ (by first | decide | omega)).trans q1_6_M27
    have q11_5_M28 : id (M28 11 5 = M 11 5) := (show M28 11 5 = M27 11 5 by rw [hM28]; exact mu_ne _ _ (by first | decide | omega)).trans q11_5_M27
    have q10_2_M28 : id (M28 10 2 = M 10 2) := (show M28 10 2 = M27 10 2 by rw [hM28]; exact mu_ne _ _ (by first | decide | omega)).trans q10_2_M27
    have q10_4_M28 : id (M28 10 4 = M 10 4) := (show M28 10 4 = M27 10 4 by rw [hM28]; exact mu_ne _ _ (by first | decide | omega)).trans q10_4_M27
    have q10_6_M28 : id (M28 10 6 = M 10 6) := (show M28 10 6 = M27 10 6 by rw [hM28]; exact mu_ne _ _ (by first | decide | omega)).trans q10_6_M27
    have q20_5_M28 : id (M28 20 5 = M 20 5) := (show M28 20 5 = M27 20 5 by rw [hM28]; exact mu_ne _ _ (by first | decide | omega)).trans q20_5_M27
    have q19_2_M28 : id (M28 19 2 = M 19 2) := (show M28 19 2 = M27 19 2 by rw [hM28]; exact mu_ne _ _ (by first | decide | omega)).trans q19_2_M27
    have q19_4_M28 : id (M28 19 4 = M 19 4) := (show M28 19 4 = M27 19 4 by rw [hM28]; exact mu_ne _ _ (by first | decide | omega)).trans q19_4_M27
    have q19_6_M28 : id (M28 19 6 = M 19 6) := (show M28 19 6 = M27 19 6 by rw [hM28]; exact mu_ne _ _ (by first | decide | omega)).trans q19_6_M27
    have q29_0_M28 : id (M28 29 0 = M 29 0) := (show M28 29 0 = M27 29 0 by rw [hM28]; exact mu_ne _ _ (by first | decide | omega)).trans q29_0_M27
    have q29_1_M28 : id (M28 29 1 = M 29 1) := (show M28 29 1 = M27 29 1 by rw [hM28]; exact mu_ne _ _ (by first | decide | omega)).trans q29_1_M27
    have q2_5_M28 : (M28 2 5 = M 2 5) := (show M28 2 5 = M27 2 5 by rw [hM28]; exact mu_ne _ _ (by first | decide | omega)).trans q2_5_M27
    have wM28_31_1 : M28 31 1 = M27 31 1 := by rw [hM28]; exact mu_ne _ _ (by first | decide | omega)
    have wM28_2_5 : M28 2 5 = M27 2 5 := by rw [hM28]; exact mu_ne _ _ (by first | decide | omega)
    have xM28_0_12 : M28 0 12 = (-1) := (show M28 0 12 = M27 0 12 by rw [hM28]; exact mu_ne _ _ (by first | decide | omega)).trans xM27_0_12
    have xM28_31_1 : M28 31 1 = 0 := (show M28 31 1 = M27 31 1 by rw [hM28]; exact mu_ne _ _ (by first | decide | omega)).trans xM27_31_1
    have xM28_0_13 : M28 0 13 = (-1) := by rw [hM28]; exact mu_at _ _ _ _
    refine g_iload_n (pc' := 41) 0 dX9_evening_40 rfl rfl ?_
    refine g_if_ne (pc' := 44) (tgt := 51) ⟨by omega, by omega⟩ dX9_evening_41 rfl rfl (fun c29 => ?_) (fun c29 => ?_)
    · refine g_aload_n (pc' := 52) 1 dX9_evening_51 rfl rfl ?_
      refine g_getR (pc' := 55) dX9_evening_52 rfl f_X9_39 rfl rfl ?_
      refine g_aload_n (pc' := 56) 1 dX9_evening_55 rfl rfl ?_
      refine g_getR (pc' := 59) dX9_evening_56 rfl f_X9_27 rfl rfl ?_
      refine g_getR (pc' := 62) dX9_evening_59 rfl f_X9_172 rfl rfl ?_
      refine g_aload_n (pc' := 63) 1 dX9_evening_62 rfl rfl ?_
      refine g_getR (pc' := 66) dX9_evening_63 rfl f_X9_12 rfl rfl ?_
      refine g_getR (pc' := 69) dX9_evening_66 rfl f_X9_86 rfl rfl ?_
      refine g_callVi (pc' := 72) (As := [vr X 37, vr X 2]) (b := 53) (S := []) dX9_evening_69 rfl m_X9_176 w_X3_run (c_X3_run X M28 iM28) rfl ⟨_, _, _, rfl, rfl, rfl⟩ (by decide) (by decide) rfl (Nat.le_of_ble_eq_true rfl) (fun z31 M32 q30 => ?_)
      obtain ⟨iM32, fM320, pM32⟩ := q30
      have fM32 : Fr (fun c => c ≤ 96) M M32 := Fr.tr fM28 fM320 fi_14
      have q1_2_M32 : id (M32 1 2 = M 1 2) := (congrFun (fM320 1 (by first | decide | omega | (dsimp only; omega))) 2).trans q1_2_M28
      have q1_4_M32 : id (M32 1 4 = M 1 4) := (congrFun (fM320 1 (by first | decide | omega | (dsimp only; omega))) 4).trans q1_4_M28
      have q1_6_M32 : id (M32 1 6 = M 1 6) := (congrFun (fM320 1 (by first | decide | omega | (dsimp only; omega))) 6).trans q1_6_M28
      have q11_5_M32 : id (M32 11 5 = M 11 5) := (congrFun (fM320 11 (by first | decide | omega | (dsimp only; omega))) 5).trans q11_5_M28
      have q10_2_M32 : id (M32 10 2 = M 10 2) := (congrFun (fM320 10 (by first | decide | omega | (dsimp only; omega))) 2).trans q10_2_M28
      have q10_4_M32 : id (M32 10 4 = M 10 4) := (congrFun (fM320 10 (by first | decide | omega | (dsimp only; omega))) 4).trans q10_4_M28
      have q10_6_M32 : id (M32 10 6 = M 10 6) := (congrFun (fM320 10 (by first | decide | omega | (dsimp only; omega))) 6).trans q10_6_M28
      have q20_5_M32 : id (M32 20 5 = M 20 5) := (congrFun (fM320 20 (by first | decide | omega | (dsimp only; omega))) 5).trans q20_5_M28
      have q19_2_M32 : id (M32 19 2 = M 19 2) := (congrFun (fM320 19 (by first | decide | omega | (dsimp only; omega))) 2).trans q19_2_M28
      have q19_4_M32 : id (M32 19 4 = M 19 4) := (congrFun (fM320 19 (by first | decide | omega | (dsimp only; omega))) 4).trans q19_4_M28
      have q19_6_M32 : id (M32 19 6 = M 19 6) := (congrFun (fM320 19 (by first | decide | omega | (dsimp only; omega))) 6).trans q19_6_M28
      have q29_0_M32 : id (M32 29 0 = M 29 0) := (congrFun (fM320 29 (by first | decide | omega | (dsimp only; omega))) 0).trans q29_0_M28
      have q29_1_M32 : id (M32 29 1 = M 29 1) := (congrFun (fM320 29 (by first | decide | omega | (dsimp only; omega))) 1).trans q29_1_M28
      have wM32_31_1 : M32 31 1 = M28 31 1 := (congrFun (fM320 31 (by first | decide | omega | (dsimp only; omega))) 1)
      have xM32_0_12 : M32 0 12 = (-1) := (congrFun (fM320 0 (by first | decide | omega | (dsimp only; omega))) 12).trans xM28_0_12
      have xM32_31_1 : M32 31 1 = 0 := (congrFun (fM320 31 (by first | decide | omega | (dsimp only; omega))) 1).trans xM28_31_1
      have xM32_0_13 : M32 0 13 = (-1) := (congrFun (fM320 0 (by first | decide | omega | (dsimp only; omega))) 13).trans xM28_0_13
      refine g_istore_n (pc' := 73) (i := 2) (L' := [(2, vi z31), (1, vi z2), (0, vr X 0)]) dX9_evening_72 rfl rfl (by decide) rfl ?_
      refine g_iload_n (pc' := 74) 0 dX9_evening_73 rfl rfl ?_
      refine g_if_ge (pc' := 77) (tgt := 88) ⟨by omega, by omega⟩ dX9_evening_74 rfl rfl (fun c33 => ?_) (fun c33 => ?_)
      · refine g_aload_n (pc' := 89) 2 dX9_evening_88 rfl rfl ?_
        refine g_iload_n (pc' := 90) 0 dX9_evening_89 rfl rfl ?_
        refine g_callVi (pc' := 93) (As := [vi z31]) (b := 0) (S := []) dX9_evening_90 rfl m_X9_79 w_X9_answered (c_X9_answered X M32 iM32 z31 ⟨by omega, by omega⟩) rfl ⟨_, _, _, rfl, rfl, rfl⟩ (by decide) (by decide) rfl (Nat.le_of_ble_eq_true rfl) (fun z35 M36 q34 => ?_)
        obtain ⟨iM36, fM360, eM36_2_5, eM36_1_2, eM36_1_4, eM36_1_6, eM36_11_5, eM36_10_2, eM36_10_4, eM36_10_6, eM36_20_5, eM36_19_2, eM36_19_4, eM36_19_6, eM36_29_0, eM36_29_1, eM36_31_1, pM36⟩ := q34
        have fM36 : Fr (fun c => c ≤ 96) M M36 := Fr.tr fM32 fM360 fi_10
        have q1_2_M36 : id (M36 1 2 = M 1 2) := eM36_1_2.trans q1_2_M32
        have q1_4_M36 : id (M36 1 4 = M 1 4) := eM36_1_4.trans q1_4_M32
        have q1_6_M36 : id (M36 1 6 = M 1 6) := eM36_1_6.trans q1_6_M32
        have q11_5_M36 : id (M36 11 5 = M 11 5) := eM36_11_5.trans q11_5_M32
        have q10_2_M36 : id (M36 10 2 = M 10 2) := eM36_10_2.trans q10_2_M32
        have q10_4_M36 : id (M36 10 4 = M 10 4) := eM36_10_4.trans q10_4_M32
        have q10_6_M36 : id (M36 10 6 = M 10 6) := eM36_10_6.trans q10_6_M32
        have q20_5_M36 : id (M36 20 5 = M 20 5) := eM36_20_5.trans q20_5_M32
        have q19_2_M36 : id (M36 19 2 = M 19 2) := eM36_19_2.trans q19_2_M32
        have q19_4_M36 : id (M36 19 4 = M 19 4) := eM36_19_4.trans q19_4_M32
        have q19_6_M36 : id (M36 19 6 = M 19 6) := eM36_19_6.trans q19_6_M32
        have q29_0_M36 : id (M36 29 0 = M 29 0) := eM36_29_0.trans q29_0_M32
        have q29_1_M36 : id (M36 29 1 = M 29 1) := eM36_29_1.trans q29_1_M32
        have wM36_31_1 : M36 31 1 = M32 31 1 := eM36_31_1
        have wM36_2_5 : M36 2 5 = M32 2 5 := eM36_2_5
        have xM36_31_1 : M36 31 1 = 0 := eM36_31_1.trans xM32_31_1
        clear eM36_1_2 eM36_1_4 eM36_1_6 eM36_11_5 eM36_10_2 eM36_10_4 eM36_10_6 eM36_20_5 eM36_19_2 eM36_19_4 eM36_19_6 eM36_29_0 eM36_29_1
        refine g_ireturn dX9_evening_93 ?_
        exact ⟨iM36, fM36, q1_2_M36, q1_4_M36, q1_6_M36, q11_5_M36, q10_2_M36, q10_4_M36, q10_6_M36, q20_5_M36, q19_2_M36, q19_4_M36, q19_6_M36, q29_0_M36, q29_1_M36, by omega⟩
      · refine g_aload_n (pc' := 78) 2 dX9_evening_77 rfl rfl ?_
        refine g_aload_n (pc' := 79) 2 dX9_evening_78 rfl rfl ?_
        refine g_getR (pc' := 82) dX9_evening_79 rfl f_X9_39 rfl rfl ?_
        refine g_getI (pc' := 85) dX9_evening_82 rfl f_X9_180 rfl rfl (fun v37 ev37 rv37 => ?_)
        refine g_putI (pc' := 88) dX9_evening_85 rfl p_X9_72 rfl rfl rv37 (fun M38 hM38 => ?_)
        have iM38 : IC M38 := IC.wr iM32 hM38 (by unfold okw isT; first | decide | omega)
        have fM38 : Fr (fun c => c ≤ 96) M M38 := Fr.wr fM32 hM38 (by first | decide | omega | (dsimp only; omega))
        have q1_2_M38 : id (M38 1 2 = M 1 2) := (show M38 1 2 = M32 1 2 by rw [hM38]; exact mu_ne _ _ (by first | decide | omega)).trans q1_2_M32
        have q1_4_M38 : id (M38 1 4 = M 1 4) := (show M38 1 4 = M32 1 4 by rw [hM38]; exact mu_ne _ _ (by first | decide | omega)).trans q1_4_M32
        have q1_6_M38 : id (M38 1 6 = M 1 6) := (show M38 1 6 = M32 1 6 by rw [hM38]; exact mu_ne _ _ (by first | decide | omega)).trans q1_6_M32
        have q11_5_M38 : id (M38 11 5 = M 11 5) := (show M38 11 5 = M32 11 5 by rw [hM38]; exact mu_ne _ _ (by first | decide | omega)).trans q11_5_M32
        have q10_2_M38 : id (M38 10 2 = M 10 2) := (show M38 10 2 = M32 10 2 by rw [hM38]; exact mu_ne _ _ (by first | decide | omega)).trans q10_2_M32
        have q10_4_M38 : id (M38 10 4 = M 10 4) := (show M38 10 4 = M32 10 4 by rw [hM38]; exact mu_ne _ _ (by first | decide | omega)).trans q10_4_M32
        have q10_6_M38 : id (M38 10 6 = M 10 6) := (show M38 10 6 = M32 10 6 by rw [hM38]; exact mu_ne _ _ (by first | decide | omega)).trans q10_6_M32
        have q20_5_M38 : id (M38 20 5 = M 20 5) := (show M38 20 5 = M32 20 5 by rw [hM38]; exact mu_ne _ _ (by first | decide | omega)).trans q20_5_M32
        have q19_2_M38 : id (M38 19 2 = M 19 2) := (show M38 19 2 = M32 19 2 by rw [hM38]; exact mu_ne _ _ (by first | decide | omega)).trans q19_2_M32
        have q19_4_M38 : id (M38 19 4 = M 19 4) := (show M38 19 4 = M32 19 4 by rw [hM38]; exact mu_ne _ _ (by first | decide | omega)).trans q19_4_M32
        have q19_6_M38 : id (M38 19 6 = M 19 6) := (show M38 19 6 = M32 19 6 by rw [hM38]; exact mu_ne _ _ (by first | decide | omega)).trans q19_6_M32
        have q29_0_M38 : id (M38 29 0 = M 29 0) := (show M38 29 0 = M32 29 0 by rw [hM38]; exact mu_ne _ _ (by first | decide | omega)).trans q29_0_M32
        have q29_1_M38 : id (M38 29 1 = M 29 1) := (show M38 29 1 = M32 29 1 by rw [hM38]; exact mu_ne _ _ (by first | decide | omega)).trans q29_1_M32
        have wM38_31_1 : M38 31 1 = M32 31 1 := by rw [hM38]; exact mu_ne _ _ (by first | decide | omega)
        have wM38_2_5 : M38 2 5 = M32 2 5 := by rw [hM38]; exact mu_ne _ _ (by first | decide | omega)
        have xM38_0_12 : M38 0 12 = (-1) := (show M38 0 12 = M32 0 12 by rw [hM38]; exact mu_ne _ _ (by first | decide | omega)).trans xM32_0_12
        have xM38_31_1 : M38 31 1 = 0 := (show M38 31 1 = M32 31 1 by rw [hM38]; exact mu_ne _ _ (by first | decide | omega)).trans xM32_31_1
        have xM38_0_13 : M38 0 13 = v37 := by rw [hM38]; exact mu_at _ _ _ _
        refine g_aload_n (pc' := 89) 2 dX9_evening_88 rfl rfl ?_
        refine g_iload_n (pc' := 90) 0 dX9_evening_89 rfl rfl ?_
        refine g_callVi (pc' := 93) (As := [vi z31]) (b := 0) (S := []) dX9_evening_90 rfl m_X9_79 w_X9_answered (c_X9_answered X M38 iM38 z31 ⟨by omega, by omega⟩) rfl ⟨_, _, _, rfl, rfl, rfl⟩ (by decide) (by decide) rfl (Nat.le_of_ble_eq_true rfl) (fun z40 M41 q39 => ?_)
        obtain ⟨iM41, fM410, eM41_2_5, eM41_1_2, eM41_1_4, eM41_1_6, eM41_11_5, eM41_10_2, eM41_10_4, eM41_10_6, eM41_20_5, eM41_19_2, eM41_19_4, eM41_19_6, eM41_29_0, eM41_29_1, eM41_31_1, pM41⟩ := q39
        have fM41 : Fr (fun c => c ≤ 96) M M41 := Fr.tr fM38 fM410 fi_10
        have q1_2_M41 : id (M41 1 2 = M 1 2) := eM41_1_2.trans q1_2_M38
        have q1_4_M41 : id (M41 1 4 = M 1 4) := eM41_1_4.trans q1_4_M38
        have q1_6_M41 : id (M41 1 6 = M 1 6) := eM41_1_6.trans q1_6_M38
        have q11_5_M41 : id (M41 11 5 = M 11 5) := eM41_11_5.trans q11_5_M38
        have q10_2_M41 : id (M41 10 2 = M 10 2) := eM41_10_2.trans q10_2_M38
        have q10_4_M41 : id (M41 10 4 = M 10 4) := eM41_10_4.trans q10_4_M38
        have q10_6_M41 : id (M41 10 6 = M 10 6) := eM41_10_6.trans q10_6_M38
        have q20_5_M41 : id (M41 20 5 = M 20 5) := eM41_20_5.trans q20_5_M38
        have q19_2_M41 : id (M41 19 2 = M 19 2) := eM41_19_2.trans q19_2_M38
        have q19_4_M41 : id (M41 19 4 = M 19 4) := eM41_19_4.trans q19_4_M38
        have q19_6_M41 : id (M41 19 6 = M 19 6) := eM41_19_6.trans q19_6_M38
        have q29_0_M41 : id (M41 29 0 = M 29 0) := eM41_29_0.trans q29_0_M38
        have q29_1_M41 : id (M41 29 1 = M 29 1) := eM41_29_1.trans q29_1_M38
        have wM41_31_1 : M41 31 1 = M38 31 1 := eM41_31_1
        have wM41_2_5 : M41 2 5 = M38 2 5 := eM41_2_5
        have xM41_31_1 : M41 31 1 = 0 := eM41_31_1.trans xM38_31_1
        clear eM41_1_2 eM41_1_4 eM41_1_6 eM41_11_5 eM41_10_2 eM41_10_4 eM41_10_6 eM41_20_5 eM41_19_2 eM41_19_4 eM41_19_6 eM41_29_0 eM41_29_1
        refine g_ireturn dX9_evening_93 ?_
        exact ⟨iM41, fM41, q1_2_M41, q1_4_M41, q1_6_M41, q11_5_M41, q10_2_M41, q10_4_M41, q10_6_M41, q20_5_M41, q19_2_M41, q19_4_M41, q19_6_M41, q29_0_M41, q29_1_M41, by omega⟩
    · refine g_aload_n (pc' := 45) 1 dX9_evening_44 rfl rfl ?_
      refine g_bipush (pc' := 47) (v := (-6)) dX9_evening_45 rfl (by decide) ?_
      refine g_callVi (pc' := 50) (As := [vi (-6)]) (b := 0) (S := []) dX9_evening_47 rfl m_X9_79 w_X9_answered (c_X9_answered X M28 iM28 (-6) (by decide)) rfl ⟨_, _, _, rfl, rfl, rfl⟩ (by decide) (by decide) rfl (Nat.le_of_ble_eq_true rfl) (fun z43 M44 q42 => ?_)
      obtain ⟨iM44, fM440, eM44_2_5, eM44_1_2, eM44_1_4, eM44_1_6, eM44_11_5, eM44_10_2, eM44_10_4, eM44_10_6, eM44_20_5, eM44_19_2, eM44_19_4, eM44_19_6, eM44_29_0, eM44_29_1, eM44_31_1, pM44⟩ := q42
      have fM44 : Fr (fun c => c ≤ 96) M M44 := Fr.tr fM28 fM440 fi_10
      have q1_2_M44 : id (M44 1 2 = M 1 2) := eM44_1_2.trans q1_2_M28
      have q1_4_M44 : id (M44 1 4 = M 1 4) := eM44_1_4.trans q1_4_M28
      have q1_6_M44 : id (M44 1 6 = M 1 6) := eM44_1_6.trans q1_6_M28
      have q11_5_M44 : id (M44 11 5 = M 11 5) := eM44_11_5.trans q11_5_M28
      have q10_2_M44 : id (M44 10 2 = M 10 2) := eM44_10_2.trans q10_2_M28
      have q10_4_M44 : id (M44 10 4 = M 10 4) := eM44_10_4.trans q10_4_M28
      have q10_6_M44 : id (M44 10 6 = M 10 6) := eM44_10_6.trans q10_6_M28
      have q20_5_M44 : id (M44 20 5 = M 20 5) := eM44_20_5.trans q20_5_M28
      have q19_2_M44 : id (M44 19 2 = M 19 2) := eM44_19_2.trans q19_2_M28
      have q19_4_M44 : id (M44 19 4 = M 19 4) := eM44_19_4.trans q19_4_M28
      have q19_6_M44 : id (M44 19 6 = M 19 6) := eM44_19_6.trans q19_6_M28
      have q29_0_M44 : id (M44 29 0 = M 29 0) := eM44_29_0.trans q29_0_M28
      have q29_1_M44 : id (M44 29 1 = M 29 1) := eM44_29_1.trans q29_1_M28
      have q2_5_M44 : (M44 2 5 = M 2 5) := eM44_2_5.trans q2_5_M28
      have wM44_31_1 : M44 31 1 = M28 31 1 := eM44_31_1
      have wM44_2_5 : M44 2 5 = M28 2 5 := eM44_2_5
      have xM44_31_1 : M44 31 1 = 0 := eM44_31_1.trans xM28_31_1
      clear eM44_1_2 eM44_1_4 eM44_1_6 eM44_11_5 eM44_10_2 eM44_10_4 eM44_10_6 eM44_20_5 eM44_19_2 eM44_19_4 eM44_19_6 eM44_29_0 eM44_29_1
      refine g_ireturn dX9_evening_50 ?_
      exact ⟨iM44, fM44, q1_2_M44, q1_4_M44, q1_6_M44, q11_5_M44, q10_2_M44, q10_4_M44, q10_6_M44, q20_5_M44, q19_2_M44, q19_4_M44, q19_6_M44, q29_0_M44, q29_1_M44, by omega⟩
set_option maxHeartbeats 4000000 in
set_option maxRecDepth 100000 in
theorem c_X9_addSpoon (X : Cx) (M : Mm) (hi : IC M) (a : Int) (ha : inI a) : Con X 3 yX9_addSpoon cX9_addSpoon 2 (some .int) [vr X 0, vi a] M (Qi (fun r M1 => IC M1 ∧ Fr (fun c => c = 1 ∨ c = 7) M M1 ∧ M1 2 5 = M 2 5 ∧ M1 1 4 = M 1 4 ∧ M1 1 6 = M 1 6 ∧ M1 11 5 = M 11 5 ∧ M1 10 2 = M 10 2 ∧ M1 10 4 = M 10 4 ∧ M1 10 6 = M 10 6 ∧ M1 20 5 = M 20 5 ∧ M1 19 2 = M 19 2 ∧ M1 19 4 = M 19 4 ∧ M1 19 6 = M 19 6 ∧ M1 29 0 = M 29 0 ∧ M1 29 1 = M 29 1 ∧ M1 31 1 = M 31 1 ∧ (((a < 1 ∨ 60 < a) → r = -1 ∧ M1 1 2 = M 1 2) ∧ (1 ≤ a → a ≤ 60 → 3 ≤ M 1 2 → r = -5 ∧ M1 1 2 = M 1 2) ∧ (1 ≤ a → a ≤ 60 → M 1 2 < 3 → r = M 1 2 ∧ M1 1 2 = M 1 2 + 1)))) := by
  refine Con.ofG rfl (Nat.le_of_ble_eq_true rfl) ?_
  show G X 3 RX9 cX9_addSpoon 2 (some .int) (Qi (fun r M1 => IC M1 ∧ Fr (fun c => c = 1 ∨ c = 7) M M1 ∧ M1 2 5 = M 2 5 ∧ M1 1 4 = M 1 4 ∧ M1 1 6 = M 1 6 ∧ M1 11 5 = M 11 5 ∧ M1 10 2 = M 10 2 ∧ M1 10 4 = M 10 4 ∧ M1 10 6 = M 10 6 ∧ M1 20 5 = M 20 5 ∧ M1 19 2 = M 19 2 ∧ M1 19 4 = M 19 4 ∧ M1 19 6 = M 19 6 ∧ M1 29 0 = M 29 0 ∧ M1 29 1 = M 29 1 ∧ M1 31 1 = M 31 1 ∧ (((a < 1 ∨ 60 < a) → r = -1 ∧ M1 1 2 = M 1 2) ∧ (1 ≤ a → a ≤ 60 → 3 ≤ M 1 2 → r = -5 ∧ M1 1 2 = M 1 2) ∧ (1 ≤ a → a ≤ 60 → M 1 2 < 3 → r = M 1 2 ∧ M1 1 2 = M 1 2 + 1)))) 0 [(0, vr X 0), (1, vi a)] [] M
  refine g_iload_n (pc' := 1) 1 dX9_addSpoon_0 rfl rfl ?_
  refine g_callSip (pc' := 4) (As := [vi a]) (S := []) dX9_addSpoon_1 rfl m_X9_82 w_X9_isAmount (c_X9_isAmount X M a ha) rfl (by decide) (by decide) rfl (Nat.le_of_ble_eq_true rfl) (fun z2 q1 => ?_)
  refine g_if_ne (pc' := 7) (tgt := 9) ⟨by omega, by omega⟩ dX9_addSpoon_4 rfl rfl (fun c3 => ?_) (fun c3 => ?_)
  · replace q1 := q1.resolve_right (fun h => c3 h.1)
    refine g_aload_n (pc' := 10) 0 dX9_addSpoon_9 rfl rfl ?_
    refine g_getR (pc' := 13) dX9_addSpoon_10 rfl f_X9_12 rfl rfl ?_
    refine g_getI (pc' := 16) dX9_addSpoon_13 rfl f_X9_207 rfl rfl (fun v4 ev4 rv4 => ?_)
    have bv4 : 0 ≤ v4 ∧ v4 ≤ 3 := by rw [ev4]; exact hi.2.1.1.1
    have av4 : v4 = M 1 2 := ev4
    refine g_iconst (pc' := 17) dX9_addSpoon_16 rfl ?_
    refine g_ic_lt (pc' := 20) (tgt := 23) rv4 (by decide) dX9_addSpoon_17 rfl rfl (fun c5 => ?_) (fun c5 => ?_)
    · refine g_aload_n (pc' := 24) 0 dX9_addSpoon_23 rfl rfl ?_
      refine g_getR (pc' := 27) dX9_addSpoon_24 rfl f_X9_12 rfl rfl ?_
      refine g_getR (pc' := 30) dX9_addSpoon_27 rfl f_X9_210 rfl rfl ?_
      refine g_aload_n (pc' := 31) 0 dX9_addSpoon_30 rfl rfl ?_
      refine g_getR (pc' := 34) dX9_addSpoon_31 rfl f_X9_12 rfl rfl ?_
      refine g_getI (pc' := 37) dX9_addSpoon_34 rfl f_X9_207 rfl rfl (fun v6 ev6 rv6 => ?_)
      obtain rfl : v4 = v6 := ev4.trans ev6.symm
      refine g_iload_n (pc' := 38) 1 dX9_addSpoon_37 rfl rfl ?_
      refine g_iast (pc' := 39) dX9_addSpoon_38 rfl rfl (by omega) (by omega) ha (fun M7 hM7 => ?_)
      have iM7 : IC M7 := IC.wr hi hM7 (by unfold okw isT; first | decide | omega)
      have fM7 : Fr (fun c => c = 1 ∨ c = 7) M M7 := Fr.wr Fr.rf hM7 (by first | decide | omega | (dsimp only; omega))
      have q2_5_M7 : id (M7 2 5 = M 2 5) := (show M7 2 5 = M 2 5 by rw [hM7]; exact mu_ne _ _ (by first | decide | omega))
      have q1_4_M7 : id (M7 1 4 = M 1 4) := (show M7 1 4 = M 1 4 by rw [hM7]; exact mu_ne _ _ (by first | decide | omega))
      have q1_6_M7 : id (M7 1 6 = M 1 6) := (show M7 1 6 = M 1 6 by rw [hM7]; exact mu_ne _ _ (by first | decide | omega))
      have q11_5_M7 : id (M7 11 5 = M 11 5) := (show M7 11 5 = M 11 5 by rw [hM7]; exact mu_ne _ _ (by first | decide | omega))
      have q10_2_M7 : id (M7 10 2 = M 10 2) := (show M7 10 2 = M 10 2 by rw [hM7]; exact mu_ne _ _ (by first | decide | omega))
      have q10_4_M7 : id (M7 10 4 = M 10 4) := (show M7 10 4 = M 10 4 by rw [hM7]; exact mu_ne _ _ (by first | decide | omega))
      have q10_6_M7 : id (M7 10 6 = M 10 6) := (show M7 10 6 = M 10 6 by rw [hM7]; exact mu_ne _ _ (by first | decide | omega))
      have q20_5_M7 : id (M7 20 5 = M 20 5) := (show M7 20 5 = M 20 5 by rw [hM7]; exact mu_ne _ _ (by first | decide | omega))
      have q19_2_M7 : id (M7 19 2 = M 19 2) := (show M7 19 2 = M 19 2 by rw [hM7]; exact mu_ne _ _ (by first | decide | omega))
      have q19_4_M7 : id (M7 19 4 = M 19 4) := (show M7 19 4 = M 19 4 by rw [hM7]; exact mu_ne _ _ (by first | decide | omega))
      have q19_6_M7 : id (M7 19 6 = M 19 6) := (show M7 19 6 = M 19 6 by rw [hM7]; exact mu_ne _ _ (by first | decide | omega))
      have q29_0_M7 : id (M7 29 0 = M 29 0) := (show M7 29 0 = M 29 0 by rw [hM7]; exact mu_ne _ _ (by first | decide | omega))
      have q29_1_M7 : id (M7 29 1 = M 29 1) := (show M7 29 1 = M 29 1 by rw [hM7]; exact mu_ne _ _ (by first | decide | omega))
      have q31_1_M7 : id (M7 31 1 = M 31 1) := (show M7 31 1 = M 31 1 by rw [hM7]; exact mu_ne _ _ (by first | decide | omega))
      have q1_2_M7 : (M7 1 2 = M 1 2) := (show M7 1 2 = M 1 2 by rw [hM7]; exact mu_ne _ _ (by first | decide | omega))
      have wM7_1_2 : M7 1 2 = M 1 2 := by rw [hM7]; exact mu_ne _ _ (by first | decide | omega)
      refine g_aload_n (pc' := 40) 0 dX9_addSpoon_39 rfl rfl ?_
      refine g_getR (pc' := 43) dX9_addSpoon_40 rfl f_X9_12 rfl rfl ?_
      refine g_dup (pc' := 44) dX9_addSpoon_43 rfl rfl ?_
      refine g_getI (pc' := 47) dX9_addSpoon_44 rfl f_X9_207 rfl rfl (fun v8 ev8 rv8 => ?_)
      have bv8 : 0 ≤ v8 ∧ v8 ≤ 3 := by rw [ev8]; exact iM7.2.1.1.1
      have av8 : v8 = M 1 2 := ev8.trans q1_2_M7
      obtain rfl : v4 = v8 := av4.trans av8.symm
      refine g_iconst (pc' := 48) dX9_addSpoon_47 rfl ?_
      refine g_iadd (pc' := 49) dX9_addSpoon_48 rfl ?_
      refine g_putI (pc' := 52) dX9_addSpoon_49 rfl p_X9_207 rfl rfl ⟨by omega, by omega⟩ (fun M9 hM9 => ?_)
      have iM9 : IC M9 := IC.wr iM7 hM9 (by unfold okw isT; first | decide | omega)
      have fM9 : Fr (fun c => c = 1 ∨ c = 7) M M9 := Fr.wr fM7 hM9 (by first | decide | omega | (dsimp only; omega))
      have q2_5_M9 : id (M9 2 5 = M 2 5) := (show M9 2 5 = M7 2 5 by rw [hM9]; exact mu_ne _ _ (by first | decide | omega)).trans q2_5_M7
      have q1_4_M9 : id (M9 1 4 = M 1 4) := (show M9 1 4 = M7 1 4 by rw [hM9]; exact mu_ne _ _ (by first | decide | omega)).trans q1_4_M7
      have q1_6_M9 : id (M9 1 6 = M 1 6) := (show M9 1 6 = M7 1 6 by rw [hM9]; exact mu_ne _ _ (by first | decide | omega)).trans q1_6_M7
      have q11_5_M9 : id (M9 11 5 = M 11 5) := (show M9 11 5 = M7 11 5 by rw [hM9]; exact mu_ne _ _ (by first | decide | omega)).trans q11_5_M7
      have q10_2_M9 : id (M9 10 2 = M 10 2) := (show M9 10 2 = M7 10 2 by rw [hM9]; exact mu_ne _ _ (by first | decide | omega)).trans q10_2_M7
      have q10_4_M9 : id (M9 10 4 = M 10 4) := (show M9 10 4 = M7 10 4 by rw [hM9]; exact mu_ne _ _ (by first | decide | omega)).trans q10_4_M7
      have q10_6_M9 : id (M9 10 6 = M 10 6) := (show M9 10 6 = M7 10 6 by rw [hM9]; exact mu_ne _ _ (by first | decide | omega)).trans q10_6_M7
      have q20_5_M9 : id (M9 20 5 = M 20 5) := (show M9 20 5 = M7 20 5 by rw [hM9]; exact mu_ne _ _ (by first | decide | omega)).trans q20_5_M7
      have q19_2_M9 : id (M9 19 2 = M 19 2) := (show M9 19 2 = M7 19 2 by rw [hM9]; exact mu_ne _ _ (by first | decide | omega)).trans q19_2_M7
      have q19_4_M9 : id (M9 19 4 = M 19 4) := (show M9 19 4 = M7 19 4 by rw [hM9]; exact mu_ne _ _ (by first | decide | omega)).trans q19_4_M7
      have q19_6_M9 : id (M9 19 6 = M 19 6) := (show M9 19 6 = M7 19 6 by rw [hM9]; exact mu_ne _ _ (by first | decide | omega)).trans q19_6_M7
      have q29_0_M9 : id (M9 29 0 = M 29 0) := (show M9 29 0 = M7 29 0 by rw [hM9]; exact mu_ne _ _ (by first | decide | omega)).trans q29_0_M7
      have q29_1_M9 : id (M9 29 1 = M 29 1) := (show M9 29 1 = M7 29 1 by rw [hM9]; exact mu_ne _ _ (by first | decide | omega)).trans q29_1_M7
      have q31_1_M9 : id (M9 31 1 = M 31 1) := (show M9 31 1 = M7 31 1 by rw [hM9]; exact mu_ne _ _ (by first | decide | omega)).trans q31_1_M7
      have xM9_1_2 : M9 1 2 = v4 + 1 := by rw [hM9]; exact mu_at _ _ _ _
      refine g_aload_n (pc' := 53) 0 dX9_addSpoon_52 rfl rfl ?_
      refine g_getR (pc' := 56) dX9_addSpoon_53 rfl f_X9_12 rfl rfl ?_
      refine g_getI (pc' := 59) dX9_addSpoon_56 rfl f_X9_207 rfl rfl (fun v10 ev10 rv10 => ?_)
      have bv10 : 0 ≤ v10 ∧ v10 ≤ 3 := by rw [ev10]; exact iM9.2.1.1.1
      have yv10 : v10 = v4 + 1 := ev10.trans xM9_1_2
      refine g_iconst (pc' := 60) dX9_addSpoon_59 rfl ?_
      refine g_isub (pc' := 61) dX9_addSpoon_60 rfl ?_
      refine g_ireturn dX9_addSpoon_61 ?_
      exact ⟨iM9, fM9, q2_5_M9, q1_4_M9, q1_6_M9, q11_5_M9, q10_2_M9, q10_4_M9, q10_6_M9, q20_5_M9, q19_2_M9, q19_4_M9, q19_6_M9, q29_0_M9, q29_1_M9, q31_1_M9, by omega⟩
    · refine g_bipush (pc' := 22) (v := (-5)) dX9_addSpoon_20 rfl (by decide) ?_
      refine g_ireturn dX9_addSpoon_22 ?_
      exact ⟨hi, Fr.rf, rfl, rfl, rfl, rfl, rfl, rfl, rfl, rfl, rfl, rfl, rfl, rfl, rfl, rfl, by omega⟩
  · replace q1 := q1.resolve_left (fun h => absurd (c3.symm.trans h.1) (by decide))
    refine g_iconst (pc' := 8) dX9_addSpoon_7 rfl ?_
    refine g_ireturn dX9_addSpoon_8 ?_
    exact ⟨hi, Fr.rf, rfl, rfl, rfl, rfl, rfl, rfl, rfl, rfl, rfl, rfl, rfl, rfl, rfl, rfl, by omega⟩
set_option maxHeartbeats 4000000 in
set_option maxRecDepth 100000 in
theorem c_X9_size (X : Cx) (M : Mm) (hi : IC M) (a : Int) (ha : inI a) : Con X 4 yX9_size cX9_size 2 (some .int) [vr X 0, vi a] M (Qi (fun r M1 => IC M1 ∧ Fr (fun c => c ≤ 96) M M1 ∧ M1 2 5 = M 2 5 ∧ M1 1 4 = M 1 4 ∧ M1 1 6 = M 1 6 ∧ M1 11 5 = M 11 5 ∧ M1 10 2 = M 10 2 ∧ M1 10 4 = M 10 4 ∧ M1 10 6 = M 10 6 ∧ M1 20 5 = M 20 5 ∧ M1 19 2 = M 19 2 ∧ M1 19 4 = M 19 4 ∧ M1 19 6 = M 19 6 ∧ M1 29 0 = M 29 0 ∧ M1 29 1 = M 29 1 ∧ M1 31 1 = M 31 1 ∧ (((a < 1 ∨ 60 < a) → r = -1 ∧ M1 1 2 = M 1 2) ∧ (1 ≤ a → a ≤ 60 → 3 ≤ M 1 2 → r = -5 ∧ M1 1 2 = M 1 2) ∧ (1 ≤ a → a ≤ 60 → M 1 2 < 3 → r = M 1 2 ∧ M1 1 2 = M 1 2 + 1)))) := by
  refine Con.ofG rfl (Nat.le_of_ble_eq_true rfl) ?_
  show G X 4 RX9 cX9_size 2 (some .int) (Qi (fun r M1 => IC M1 ∧ Fr (fun c => c ≤ 96) M M1 ∧ M1 2 5 = M 2 5 ∧ M1 1 4 = M 1 4 ∧ M1 1 6 = M 1 6 ∧ M1 11 5 = M 11 5 ∧ M1 10 2 = M 10 2 ∧ M1 10 4 = M 10 4 ∧ M1 10 6 = M 10 6 ∧ M1 20 5 = M 20 5 ∧ M1 19 2 = M 19 2 ∧ M1 19 4 = M 19 4 ∧ M1 19 6 = M 19 6 ∧ M1 29 0 = M 29 0 ∧ M1 29 1 = M 29 1 ∧ M1 31 1 = M 31 1 ∧ (((a < 1 ∨ 60 < a) → r = -1 ∧ M1 1 2 = M 1 2) ∧ (1 ≤ a → a ≤ 60 → 3 ≤ M 1 2 → r = -5 ∧ M1 1 2 = M 1 2) ∧ (1 ≤ a → a ≤ 60 → M 1 2 < 3 → r = M 1 2 ∧ M1 1 2 = M 1 2 + 1)))) 0 [(0, vr X 0), (1, vi a)] [] M
  have hi5 := (hi.1 2 isT_2).2.1
  have hi4 := (hi.1 2 isT_2).1
  have h12 := hi.2.1.1.1
  have h14 := hi.2.1.1.2.1
  have h16 := hi.2.1.1.2.2
  refine g_aload_n (pc' := 1) 0 dX9_size_0 rfl rfl ?_
  refine g_aload_n (pc' := 2) 0 dX9_size_1 rfl rfl ?_
  refine g_iload_n (pc' := 3) 1 dX9_size_2 rfl rfl ?_
  refine g_callVi (pc' := 6) (As := [vi a]) (b := 0) (S := [vr X 0]) dX9_size_3 rfl m_X9_204 w_X9_addSpoon (c_X9_addSpoon X M hi a ha) rfl ⟨_, _, _, rfl, rfl, rfl⟩ (by decide) (by decide) rfl (Nat.le_of_ble_eq_true rfl) (fun z2 M3 q1 => ?_)
  obtain ⟨iM3, fM30, eM3_2_5, eM3_1_4, eM3_1_6, eM3_11_5, eM3_10_2, eM3_10_4, eM3_10_6, eM3_20_5, eM3_19_2, eM3_19_4, eM3_19_6, eM3_29_0, eM3_29_1, eM3_31_1, pM3⟩ := q1
  have fM3 : Fr (fun c => c ≤ 96) M M3 := Fr.tr Fr.rf fM30 fi_15
  have q2_5_M3 : id (M3 2 5 = M 2 5) := eM3_2_5
  have q1_4_M3 : id (M3 1 4 = M 1 4) := eM3_1_4
  have q1_6_M3 : id (M3 1 6 = M 1 6) := eM3_1_6
  have q11_5_M3 : id (M3 11 5 = M 11 5) := eM3_11_5
  have q10_2_M3 : id (M3 10 2 = M 10 2) := eM3_10_2
  have q10_4_M3 : id (M3 10 4 = M 10 4) := eM3_10_4
  have q10_6_M3 : id (M3 10 6 = M 10 6) := eM3_10_6
  have q20_5_M3 : id (M3 20 5 = M 20 5) := eM3_20_5
  have q19_2_M3 : id (M3 19 2 = M 19 2) := eM3_19_2
  have q19_4_M3 : id (M3 19 4 = M 19 4) := eM3_19_4
  have q19_6_M3 : id (M3 19 6 = M 19 6) := eM3_19_6
  have q29_0_M3 : id (M3 29 0 = M 29 0) := eM3_29_0
  have q29_1_M3 : id (M3 29 1 = M 29 1) := eM3_29_1
  have q31_1_M3 : id (M3 31 1 = M 31 1) := eM3_31_1
  clear eM3_2_5 eM3_1_4 eM3_1_6 eM3_11_5 eM3_10_2 eM3_10_4 eM3_10_6 eM3_20_5 eM3_19_2 eM3_19_4 eM3_19_6 eM3_29_0 eM3_29_1 eM3_31_1
  refine g_callVi (pc' := 9) (As := [vi z2]) (b := 0) (S := []) dX9_size_6 rfl m_X9_79 w_X9_answered (c_X9_answered X M3 iM3 z2 ⟨by omega, by omega⟩) rfl ⟨_, _, _, rfl, rfl, rfl⟩ (by decide) (by decide) rfl (Nat.le_of_ble_eq_true rfl) (fun z5 M6 q4 => ?_)
  obtain ⟨iM6, fM60, eM6_2_5, eM6_1_2, eM6_1_4, eM6_1_6, eM6_11_5, eM6_10_2, eM6_10_4, eM6_10_6, eM6_20_5, eM6_19_2, eM6_19_4, eM6_19_6, eM6_29_0, eM6_29_1, eM6_31_1, pM6⟩ := q4
  have fM6 : Fr (fun c => c ≤ 96) M M6 := Fr.tr fM3 fM60 fi_10
  have q2_5_M6 : id (M6 2 5 = M 2 5) := eM6_2_5.trans q2_5_M3
  have q1_4_M6 : id (M6 1 4 = M 1 4) := eM6_1_4.trans q1_4_M3
  have q1_6_M6 : id (M6 1 6 = M 1 6) := eM6_1_6.trans q1_6_M3
  have q11_5_M6 : id (M6 11 5 = M 11 5) := eM6_11_5.trans q11_5_M3
  have q10_2_M6 : id (M6 10 2 = M 10 2) := eM6_10_2.trans q10_2_M3
  have q10_4_M6 : id (M6 10 4 = M 10 4) := eM6_10_4.trans q10_4_M3
  have q10_6_M6 : id (M6 10 6 = M 10 6) := eM6_10_6.trans q10_6_M3
  have q20_5_M6 : id (M6 20 5 = M 20 5) := eM6_20_5.trans q20_5_M3
  have q19_2_M6 : id (M6 19 2 = M 19 2) := eM6_19_2.trans q19_2_M3
  have q19_4_M6 : id (M6 19 4 = M 19 4) := eM6_19_4.trans q19_4_M3
  have q19_6_M6 : id (M6 19 6 = M 19 6) := eM6_19_6.trans q19_6_M3
  have q29_0_M6 : id (M6 29 0 = M 29 0) := eM6_29_0.trans q29_0_M3
  have q29_1_M6 : id (M6 29 1 = M 29 1) := eM6_29_1.trans q29_1_M3
  have q31_1_M6 : id (M6 31 1 = M 31 1) := eM6_31_1.trans q31_1_M3
  have wM6_1_2 : M6 1 2 = M3 1 2 := eM6_1_2
  clear eM6_2_5 eM6_1_4 eM6_1_6 eM6_11_5 eM6_10_2 eM6_10_4 eM6_10_6 eM6_20_5 eM6_19_2 eM6_19_4 eM6_19_6 eM6_29_0 eM6_29_1 eM6_31_1
  refine g_ireturn dX9_size_9 ?_
  exact ⟨iM6, fM6, q2_5_M6, q1_4_M6, q1_6_M6, q11_5_M6, q10_2_M6, q10_4_M6, q10_6_M6, q20_5_M6, q19_2_M6, q19_4_M6, q19_6_M6, q29_0_M6, q29_1_M6, q31_1_M6, by omega⟩
set_option maxHeartbeats 4000000 in
set_option maxRecDepth 100000 in
theorem c_X9_wash (X : Cx) (M : Mm) (hi : IC M) : Con X 1 yX9_wash cX9_wash 2 (some .int) [vr X 0] M (Qi (fun r M1 => IC M1 ∧ Fr (fun c => c ≤ 96) M M1 ∧ M1 2 5 = M 2 5 ∧ M1 1 6 = M 1 6 ∧ M1 11 5 = M 11 5 ∧ M1 10 2 = M 10 2 ∧ M1 10 4 = M 10 4 ∧ M1 10 6 = M 10 6 ∧ M1 20 5 = M 20 5 ∧ M1 19 2 = M 19 2 ∧ M1 19 4 = M 19 4 ∧ M1 19 6 = M 19 6 ∧ M1 29 0 = M 29 0 ∧ M1 29 1 = M 29 1 ∧ M1 31 1 = M 31 1 ∧ (r = M 1 2 + M 1 4 ∧ M1 1 2 = 0 ∧ M1 1 4 = 0))) := by
  refine Con.ofG rfl (Nat.le_of_ble_eq_true rfl) ?_
  show G X 1 RX9 cX9_wash 2 (some .int) (Qi (fun r M1 => IC M1 ∧ Fr (fun c => c ≤ 96) M M1 ∧ M1 2 5 = M 2 5 ∧ M1 1 6 = M 1 6 ∧ M1 11 5 = M 11 5 ∧ M1 10 2 = M 10 2 ∧ M1 10 4 = M 10 4 ∧ M1 10 6 = M 10 6 ∧ M1 20 5 = M 20 5 ∧ M1 19 2 = M 19 2 ∧ M1 19 4 = M 19 4 ∧ M1 19 6 = M 19 6 ∧ M1 29 0 = M 29 0 ∧ M1 29 1 = M 29 1 ∧ M1 31 1 = M 31 1 ∧ (r = M 1 2 + M 1 4 ∧ M1 1 2 = 0 ∧ M1 1 4 = 0))) 0 [(0, vr X 0)] [] M
  refine g_aload_n (pc' := 1) 0 dX9_wash_0 rfl rfl ?_
  refine g_getR (pc' := 4) dX9_wash_1 rfl f_X9_12 rfl rfl ?_
  refine g_getI (pc' := 7) dX9_wash_4 rfl f_X9_207 rfl rfl (fun v1 ev1 rv1 => ?_)
  have bv1 : 0 ≤ v1 ∧ v1 ≤ 3 := by rw [ev1]; exact hi.2.1.1.1
  have av1 : v1 = M 1 2 := ev1
  refine g_aload_n (pc' := 8) 0 dX9_wash_7 rfl rfl ?_
  refine g_getR (pc' := 11) dX9_wash_8 rfl f_X9_12 rfl rfl ?_
  refine g_getI (pc' := 14) dX9_wash_11 rfl f_X9_213 rfl rfl (fun v2 ev2 rv2 => ?_)
  have bv2 : 0 ≤ v2 ∧ v2 ≤ 6 := by rw [ev2]; exact hi.2.1.1.2.1
  have av2 : v2 = M 1 4 := ev2
  refine g_iadd (pc' := 15) dX9_wash_14 rfl ?_
  obtain ⟨x3, ex3⟩ : ∃ z : Int, z = v1 + v2 := ⟨_, rfl⟩
  rw [← ex3]
  refine g_istore_n (pc' := 16) (i := 1) (L' := [(1, vi x3), (0, vr X 0)]) dX9_wash_15 rfl rfl (by decide) rfl ?_
  refine g_aload_n (pc' := 17) 1 dX9_wash_16 rfl rfl ?_
  refine g_getR (pc' := 20) dX9_wash_17 rfl f_X9_12 rfl rfl ?_
  refine g_iconst (pc' := 21) dX9_wash_20 rfl ?_
  refine g_putI (pc' := 24) dX9_wash_21 rfl p_X9_207 rfl rfl (by decide) (fun M4 hM4 => ?_)
  have iM4 : IC M4 := IC.wr hi hM4 (by unfold okw isT; first | decide | omega)
  have fM4 : Fr (fun c => c ≤ 96) M M4 := Fr.wr Fr.rf hM4 (by first | decide | omega | (dsimp only; omega))
  have q2_5_M4 : id (M4 2 5 = M 2 5) := (show M4 2 5 = M 2 5 by rw [hM4]; exact mu_ne _ _ (by first | decide | omega))
  have q1_6_M4 : id (M4 1 6 = M 1 6) := (show M4 1 6 = M 1 6 by rw [hM4]; exact mu_ne _ _ (by first | decide | omega))
  have q11_5_M4 : id (M4 11 5 = M 11 5) := (show M4 11 5 = M 11 5 by rw [hM4]; exact mu_ne _ _ (by first | decide | omega))
  have q10_2_M4 : id (M4 10 2 = M 10 2) := (show M4 10 2 = M 10 2 by rw [hM4]; exact mu_ne _ _ (by first | decide | omega))
  have q10_4_M4 : id (M4 10 4 = M 10 4) := (show M4 10 4 = M 10 4 by rw [hM4]; exact mu_ne _ _ (by first | decide | omega))
  have q10_6_M4 : id (M4 10 6 = M 10 6) := (show M4 10 6 = M 10 6 by rw [hM4]; exact mu_ne _ _ (by first | decide | omega))
  have q20_5_M4 : id (M4 20 5 = M 20 5) := (show M4 20 5 = M 20 5 by rw [hM4]; exact mu_ne _ _ (by first | decide | omega))
  have q19_2_M4 : id (M4 19 2 = M 19 2) := (show M4 19 2 = M 19 2 by rw [hM4]; exact mu_ne _ _ (by first | decide | omega))
  have q19_4_M4 : id (M4 19 4 = M 19 4) := (show M4 19 4 = M 19 4 by rw [hM4]; exact mu_ne _ _ (by first | decide | omega))
  have q19_6_M4 : id (M4 19 6 = M 19 6) := (show M4 19 6 = M 19 6 by rw [hM4]; exact mu_ne _ _ (by first | decide | omega))
  have q29_0_M4 : id (M4 29 0 = M 29 0) := (show M4 29 0 = M 29 0 by rw [hM4]; exact mu_ne _ _ (by first | decide | omega))
  have q29_1_M4 : id (M4 29 1 = M 29 1) := (show M4 29 1 = M 29 1 by rw [hM4]; exact mu_ne _ _ (by first | decide | omega))
  have q31_1_M4 : id (M4 31 1 = M 31 1) := (show M4 31 1 = M 31 1 by rw [hM4]; exact mu_ne _ _ (by first | decide | omega))
  have q1_4_M4 : (M4 1 4 = M 1 4) := (show M4 1 4 = M 1 4 by rw [hM4]; exact mu_ne _ _ (by first | decide | omega))
  have wM4_1_4 : M4 1 4 = M 1 4 := by rw [hM4]; exact mu_ne _ _ (by first | decide | omega)
  have xM4_1_2 : M4 1 2 = 0 := by rw [hM4]; exact mu_at _ _ _ _
  refine g_aload_n (pc' := 25) 1 dX9_wash_24 rfl rfl ?_
  refine g_getR (pc' := 28) dX9_wash_25 rfl f_X9_12 rfl rfl ?_
  refine g_iconst (pc' := 29) dX9_wash_28 rfl ?_
  refine g_putI (pc' := 32) dX9_wash_29 rfl p_X9_213 rfl rfl (by decide) (fun M5 hM5 => ?_)
  have iM5 : IC M5 := IC.wr iM4 hM5 (by unfold okw isT; first | decide | omega)
  have fM5 : Fr (fun c => c ≤ 96) M M5 := Fr.wr fM4 hM5 (by first | decide | omega | (dsimp only; omega))
  have q2_5_M5 : id (M5 2 5 = M 2 5) := (show M5 2 5 = M4 2 5 by rw [hM5]; exact mu_ne _ _ (by first | decide | omega)).trans q2_5_M4
  have q1_6_M5 : id (M5 1 6 = M 1 6) := (show M5 1 6 = M4 1 6 by rw [hM5]; exact mu_ne _ _ (by first | decide | omega)).trans q1_6_M4
  have q11_5_M5 : id (M5 11 5 = M 11 5) := (show M5 11 5 = M4 11 5 by rw [hM5]; exact mu_ne _ _ (by first | decide | omega)).trans q11_5_M4
  have q10_2_M5 : id (M5 10 2 = M 10 2) := (show M5 10 2 = M4 10 2 by rw [hM5]; exact mu_ne _ _ (by first | decide | omega)).trans q10_2_M4
  have q10_4_M5 : id (M5 10 4 = M 10 4) := (show M5 10 4 = M4 10 4 by rw [hM5]; exact mu_ne _ _ (by first | decide | omega)).trans q10_4_M4
  have q10_6_M5 : id (M5 10 6 = M 10 6) := (show M5 10 6 = M4 10 6 by rw [hM5]; exact mu_ne _ _ (by first | decide | omega)).trans q10_6_M4
  have q20_5_M5 : id (M5 20 5 = M 20 5) := (show M5 20 5 = M4 20 5 by rw [hM5]; exact mu_ne _ _ (by first | decide | omega)).trans q20_5_M4
  have q19_2_M5 : id (M5 19 2 = M 19 2) := (show M5 19 2 = M4 19 2 by rw [hM5]; exact mu_ne _ _ (by first | decide | omega)).trans q19_2_M4
  have q19_4_M5 : id (M5 19 4 = M 19 4) := (show M5 19 4 = M4 19 4 by rw [hM5]; exact mu_ne _ _ (by first | decide | omega)).trans q19_4_M4
  have q19_6_M5 : id (M5 19 6 = M 19 6) := (show M5 19 6 = M4 19 6 by rw [hM5]; exact mu_ne _ _ (by first | decide | omega)).trans q19_6_M4
  have q29_0_M5 : id (M5 29 0 = M 29 0) := (show M5 29 0 = M4 29 0 by rw [hM5]; exact mu_ne _ _ (by first | decide | omega)).trans q29_0_M4
  have q29_1_M5 : id (M5 29 1 = M 29 1) := (show M5 29 1 = M4 29 1 by rw [hM5]; exact mu_ne _ _ (by first | decide | omega)).trans q29_1_M4
  have q31_1_M5 : id (M5 31 1 = M 31 1) := (show M5 31 1 = M4 31 1 by rw [hM5]; exact mu_ne _ _ (by first | decide | omega)).trans q31_1_M4
  have wM5_1_2 : M5 1 2 = M4 1 2 := by rw [hM5]; exact mu_ne _ _ (by first | decide | omega)
  have xM5_1_2 : M5 1 2 = 0 := (show M5 1 2 = M4 1 2 by rw [hM5]; exact mu_ne _ _ (by first | decide | omega)).trans xM4_1_2
  have xM5_1_4 : M5 1 4 = 0 := by rw [hM5]; exact mu_at _ _ _ _
  refine g_iload_n (pc' := 33) 0 dX9_wash_32 rfl rfl ?_
  refine g_ireturn dX9_wash_33 ?_
  exact ⟨iM5, fM5, q2_5_M5, q1_6_M5, q11_5_M5, q10_2_M5, q10_4_M5, q10_6_M5, q20_5_M5, q19_2_M5, q19_4_M5, q19_6_M5, q29_0_M5, q29_1_M5, q31_1_M5, by omega⟩
set_option maxHeartbeats 4000000 in
set_option maxRecDepth 100000 in
theorem c_X9_reach (X : Cx) (M : Mm) (hi : IC M) (a : Int) (ha : inI a) (b : Int) (hb : inI b) (c : Int) (hc : inI c) (w : Int) (hw : inI w) (x : Int) (hx : inI x) (y : Int) (hy : inI y) : Con X 20 yX9_reach cX9_reach 8 (some .int) [vr X 0, vi a, vi b, vi c, vi w, vi x, vi y] M (Qi (fun r M1 => IC M1 ∧ Fr (fun c => c ≤ 96) M M1 ∧ M1 2 5 = M 2 5 ∧ M1 1 2 = M 1 2 ∧ M1 1 4 = M 1 4 ∧ M1 1 6 = M 1 6 ∧ M1 11 5 = M 11 5 ∧ M1 10 2 = M 10 2 ∧ M1 10 4 = M 10 4 ∧ M1 10 6 = M 10 6 ∧ M1 20 5 = M 20 5 ∧ M1 19 2 = M 19 2 ∧ M1 19 4 = M 19 4 ∧ M1 19 6 = M 19 6 ∧ M1 29 0 = M 29 0 ∧ M1 29 1 = M 29 1 ∧ M1 31 1 = M 31 1 ∧ (inI r))) := by
  refine Con.ofG rfl (Nat.le_of_ble_eq_true rfl) ?_
  show G X 20 RX9 cX9_reach 8 (some .int) (Qi (fun r M1 => IC M1 ∧ Fr (fun c => c ≤ 96) M M1 ∧ M1 2 5 = M 2 5 ∧ M1 1 2 = M 1 2 ∧ M1 1 4 = M 1 4 ∧ M1 1 6 = M 1 6 ∧ M1 11 5 = M 11 5 ∧ M1 10 2 = M 10 2 ∧ M1 10 4 = M 10 4 ∧ M1 10 6 = M 10 6 ∧ M1 20 5 = M 20 5 ∧ M1 19 2 = M 19 2 ∧ M1 19 4 = M 19 4 ∧ M1 19 6 = M 19 6 ∧ M1 29 0 = M 29 0 ∧ M1 29 1 = M 29 1 ∧ M1 31 1 = M 31 1 ∧ (inI r))) 0 [(0, vr X 0), (1, vi a), (2, vi b), (3, vi c), (4, vi w), (5, vi x), (6, vi y)] [] M
  refine g_aload_n (pc' := 1) 0 dX9_reach_0 rfl rfl ?_
  refine g_getR (pc' := 4) dX9_reach_1 rfl f_X9_12 rfl rfl ?_
  refine g_getR (pc' := 7) dX9_reach_4 rfl f_X9_86 rfl rfl ?_
  refine g_iload_n (pc' := 8) 1 dX9_reach_7 rfl rfl ?_
  refine g_callVip (pc' := 11) (As := [vi a]) (b := 2) (S := []) dX9_reach_8 rfl m_X9_92 w_X7_has (c_X7_has X M 2 isT_2 (hi.1 _ isT_2) a ha) rfl ⟨_, _, _, rfl, rfl, rfl⟩ (by decide) (by decide) rfl (Nat.le_of_ble_eq_true rfl) (fun z2 q1 => ?_)
  refine g_if_eq (pc' := 14) (tgt := 21) ⟨by omega, by omega⟩ dX9_reach_11 rfl rfl (fun c3 => ?_) (fun c3 => ?_)
  · replace q1 := q1.resolve_left (fun h => absurd (c3.symm.trans h.1) (by decide))
    refine g_iconst (pc' := 22) dX9_reach_21 rfl ?_
    refine g_ireturn dX9_reach_22 ?_
    exact ⟨hi, Fr.rf, rfl, rfl, rfl, rfl, rfl, rfl, rfl, rfl, rfl, rfl, rfl, rfl, rfl, rfl, rfl, by omega⟩
  · replace q1 := q1.resolve_right (fun h => c3 h.1)
    refine g_iload_n (pc' := 15) 2 dX9_reach_14 rfl rfl ?_
    refine g_callSip (pc' := 18) (As := [vi b]) (S := []) dX9_reach_15 rfl m_X9_101 w_X9_isStuff (c_X9_isStuff X M b hb) rfl (by decide) (by decide) rfl (Nat.le_of_ble_eq_true rfl) (fun z5 q4 => ?_)
    refine g_if_ne (pc' := 21) (tgt := 23) ⟨by omega, by omega⟩ dX9_reach_18 rfl rfl (fun c6 => ?_) (fun c6 => ?_)
    · replace q4 := q4.resolve_right (fun h => c6 h.1)
      refine g_iload_n (pc' := 24) 3 dX9_reach_23 rfl rfl ?_
      refine g_iconst (pc' := 25) dX9_reach_24 rfl ?_
      refine g_bipush (pc' := 27) (v := 100) dX9_reach_25 rfl (by decide) ?_
      refine g_callSip (pc' := 30) (As := [vi c, vi 0, vi 100]) (S := []) dX9_reach_27 rfl m_X9_191 w_X9_isWithin (c_X9_isWithin X M c hc 0 (by decide) 100 (by decide)) rfl (by decide) (by decide) rfl (Nat.le_of_ble_eq_true rfl) (fun z8 q7 => ?_)
      refine g_if_eq (pc' := 33) (tgt := 44) ⟨by omega, by omega⟩ dX9_reach_30 rfl rfl (fun c9 => ?_) (fun c9 => ?_)
      · replace q7 := q7.resolve_left (fun h => absurd (c9.symm.trans h.1) (by decide))
        refine g_iconst (pc' := 45) dX9_reach_44 rfl ?_
        refine g_ireturn dX9_reach_45 ?_
        exact ⟨hi, Fr.rf, rfl, rfl, rfl, rfl, rfl, rfl, rfl, rfl, rfl, rfl, rfl, rfl, rfl, rfl, rfl, by omega⟩
      · replace q7 := q7.resolve_right (fun h => c9 h.1)
        refine g_iload (pc' := 35) 4 dX9_reach_33 rfl rfl ?_
        refine g_iconst (pc' := 36) dX9_reach_35 rfl ?_
        refine g_bipush (pc' := 38) (v := 100) dX9_reach_36 rfl (by decide) ?_
        refine g_callSip (pc' := 41) (As := [vi w, vi 0, vi 100]) (S := []) dX9_reach_38 rfl m_X9_191 w_X9_isWithin (c_X9_isWithin X M w hw 0 (by decide) 100 (by decide)) rfl (by decide) (by decide) rfl (Nat.le_of_ble_eq_true rfl) (fun z11 q10 => ?_)
        refine g_if_ne (pc' := 44) (tgt := 46) ⟨by omega, by omega⟩ dX9_reach_41 rfl rfl (fun c12 => ?_) (fun c12 => ?_)
        · replace q10 := q10.resolve_right (fun h => c12 h.1)
          refine g_aload_n (pc' := 47) 0 dX9_reach_46 rfl rfl ?_
          refine g_getR (pc' := 50) dX9_reach_47 rfl f_X9_46 rfl rfl ?_
          refine g_aload_n (pc' := 51) 0 dX9_reach_50 rfl rfl ?_
          refine g_getR (pc' := 54) dX9_reach_51 rfl f_X9_12 rfl rfl ?_
          refine g_iload_n (pc' := 55) 1 dX9_reach_54 rfl rfl ?_
          refine g_iload_n (pc' := 56) 2 dX9_reach_55 rfl rfl ?_
          refine g_iload_n (pc' := 57) 3 dX9_reach_56 rfl rfl ?_
          refine g_iload (pc' := 59) 4 dX9_reach_57 rfl rfl ?_
          refine g_callVi (pc' := 62) (As := [vr X 1, vi a, vi b, vi c, vi w]) (b := 60) (S := []) dX9_reach_59 rfl m_X9_216 w_X5_fewest (c_X5_fewest X M hi a ha b hb c hc w hw) rfl ⟨_, _, _, rfl, rfl, rfl⟩ (by decide) (by decide) rfl (Nat.le_of_ble_eq_true rfl) (fun z14 M15 q13 => ?_)
          obtain ⟨iM15, fM150, pM15⟩ := q13
          have fM15 : Fr (fun c => c ≤ 96) M M15 := Fr.tr Fr.rf fM150 fi_16
          have q2_5_M15 : id (M15 2 5 = M 2 5) := (congrFun (fM150 2 (by first | decide | omega | (dsimp only; omega))) 5)
          have q1_2_M15 : id (M15 1 2 = M 1 2) := (congrFun (fM150 1 (by first | decide | omega | (dsimp only; omega))) 2)
          have q1_4_M15 : id (M15 1 4 = M 1 4) := (congrFun (fM150 1 (by first | decide | omega | (dsimp only; omega))) 4)
          have q1_6_M15 : id (M15 1 6 = M 1 6) := (congrFun (fM150 1 (by first | decide | omega | (dsimp only; omega))) 6)
          have q11_5_M15 : id (M15 11 5 = M 11 5) := (congrFun (fM150 11 (by first | decide | omega | (dsimp only; omega))) 5)
          have q10_2_M15 : id (M15 10 2 = M 10 2) := (congrFun (fM150 10 (by first | decide | omega | (dsimp only; omega))) 2)
          have q10_4_M15 : id (M15 10 4 = M 10 4) := (congrFun (fM150 10 (by first | decide | omega | (dsimp only; omega))) 4)
          have q10_6_M15 : id (M15 10 6 = M 10 6) := (congrFun (fM150 10 (by first | decide | omega | (dsimp only; omega))) 6)
          have q20_5_M15 : id (M15 20 5 = M 20 5) := (congrFun (fM150 20 (by first | decide | omega | (dsimp only; omega))) 5)
          have q19_2_M15 : id (M15 19 2 = M 19 2) := (congrFun (fM150 19 (by first | decide | omega | (dsimp only; omega))) 2)
          have q19_4_M15 : id (M15 19 4 = M 19 4) := (congrFun (fM150 19 (by first | decide | omega | (dsimp only; omega))) 4)
          have q19_6_M15 : id (M15 19 6 = M 19 6) := (congrFun (fM150 19 (by first | decide | omega | (dsimp only; omega))) 6)
          have q29_0_M15 : id (M15 29 0 = M 29 0) := (congrFun (fM150 29 (by first | decide | omega | (dsimp only; omega))) 0)
          have q29_1_M15 : id (M15 29 1 = M 29 1) := (congrFun (fM150 29 (by first | decide | omega | (dsimp only; omega))) 1)
          have q31_1_M15 : id (M15 31 1 = M 31 1) := (congrFun (fM150 31 (by first | decide | omega | (dsimp only; omega))) 1)
          refine g_istore (pc' := 64) (L' := [(7, vi z14), (0, vr X 0), (1, vi a), (2, vi b), (3, vi c), (4, vi w), (5, vi x), (6, vi y)]) dX9_reach_62 rfl (by decide) rfl ?_
          refine g_iload (pc' := 66) 6 dX9_reach_64 rfl rfl ?_
          refine g_iconst (pc' := 67) dX9_reach_66 rfl ?_
          refine g_ic_ne (pc' := 70) (tgt := 75) hx (by decide) dX9_reach_67 rfl rfl (fun c16 => ?_) (fun c16 => ?_)
          · refine g_aload_n (pc' := 76) 1 dX9_reach_75 rfl rfl ?_
            refine g_getR (pc' := 79) dX9_reach_76 rfl f_X9_46 rfl rfl ?_
            refine g_iload (pc' := 81) 0 dX9_reach_79 rfl rfl ?_
            refine g_iload (pc' := 83) 6 dX9_reach_81 rfl rfl ?_
            refine g_iload (pc' := 85) 7 dX9_reach_83 rfl rfl ?_
            refine g_callVip (pc' := 88) (As := [vi z14, vi x, vi y]) (b := 60) (S := []) dX9_reach_85 rfl m_X9_220 w_X5_ofFirst (c_X5_ofFirst X M15 iM15 z14 ⟨by omega, by omega⟩ x hx y hy) rfl ⟨_, _, _, rfl, rfl, rfl⟩ (by decide) (by decide) rfl (Nat.le_of_ble_eq_true rfl) (fun z18 q17 => ?_)
            refine g_ireturn dX9_reach_88 ?_
            exact ⟨iM15, fM15, q2_5_M15, q1_2_M15, q1_4_M15, q1_6_M15, q11_5_M15, q10_2_M15, q10_4_M15, q10_6_M15, q20_5_M15, q19_2_M15, q19_4_M15, q19_6_M15, q29_0_M15, q29_1_M15, q31_1_M15, by omega⟩
          · refine g_iload (pc' := 72) 0 dX9_reach_70 rfl rfl ?_
            refine g_goto (tgt := 88) dX9_reach_72 rfl ?_
            refine g_ireturn dX9_reach_88 ?_
            exact ⟨iM15, fM15, q2_5_M15, q1_2_M15, q1_4_M15, q1_6_M15, q11_5_M15, q10_2_M15, q10_4_M15, q10_6_M15, q20_5_M15, q19_2_M15, q19_4_M15, q19_6_M15, q29_0_M15, q29_1_M15, q31_1_M15, by omega⟩
        · replace q10 := q10.resolve_left (fun h => absurd (c12.symm.trans h.1) (by decide))
          refine g_iconst (pc' := 45) dX9_reach_44 rfl ?_
          refine g_ireturn dX9_reach_45 ?_
          exact ⟨hi, Fr.rf, rfl, rfl, rfl, rfl, rfl, rfl, rfl, rfl, rfl, rfl, rfl, rfl, rfl, rfl, rfl, by omega⟩
    · replace q4 := q4.resolve_left (fun h => absurd (c6.symm.trans h.1) (by decide))
      refine g_iconst (pc' := 22) dX9_reach_21 rfl ?_
      refine g_ireturn dX9_reach_22 ?_
      exact ⟨hi, Fr.rf, rfl, rfl, rfl, rfl, rfl, rfl, rfl, rfl, rfl, rfl, rfl, rfl, rfl, rfl, rfl, by omega⟩
set_option maxHeartbeats 4000000 in
set_option maxRecDepth 100000 in
theorem c_X9_addTasting (X : Cx) (M : Mm) (hi : IC M) (a : Int) (ha : inI a) (b : Int) (hb : inI b) (c : Int) (hc : inI c) : Con X 3 yX9_addTasting cX9_addTasting 4 (some .int) [vr X 0, vi a, vi b, vi c] M (Qi (fun r M1 => IC M1 ∧ Fr (fun c => c = 1 ∨ c = 8) M M1 ∧ M1 2 5 = M 2 5 ∧ M1 1 2 = M 1 2 ∧ M1 1 6 = M 1 6 ∧ M1 11 5 = M 11 5 ∧ M1 10 2 = M 10 2 ∧ M1 10 4 = M 10 4 ∧ M1 10 6 = M 10 6 ∧ M1 20 5 = M 20 5 ∧ M1 19 2 = M 19 2 ∧ M1 19 4 = M 19 4 ∧ M1 19 6 = M 19 6 ∧ M1 29 0 = M 29 0 ∧ M1 29 1 = M 29 1 ∧ M1 31 1 = M 31 1 ∧ (((b < 0 ∨ 3 < b ∨ c < 0 ∨ 100 < c) → r = -1 ∧ M1 1 4 = M 1 4) ∧ (0 ≤ b → b ≤ 3 → 0 ≤ c → c ≤ 100 → (a < 0 ∨ M 2 5 ≤ a) → r = -2 ∧ M1 1 4 = M 1 4) ∧ (0 ≤ b → b ≤ 3 → 0 ≤ c → c ≤ 100 → 0 ≤ a → a < M 2 5 → 6 ≤ M 1 4 → r = -5 ∧ M1 1 4 = M 1 4) ∧ (0 ≤ b → b ≤ 3 → 0 ≤ c → c ≤ 100 → 0 ≤ a → a < M 2 5 → M 1 4 < 6 → r = M 1 4 + 1 ∧ M1 1 4 = M 1 4 + 1)))) := by
  refine Con.ofG rfl (Nat.le_of_ble_eq_true rfl) ?_
  show G X 3 RX9 cX9_addTasting 4 (some .int) (Qi (fun r M1 => IC M1 ∧ Fr (fun c => c = 1 ∨ c = 8) M M1 ∧ M1 2 5 = M 2 5 ∧ M1 1 2 = M 1 2 ∧ M1 1 6 = M 1 6 ∧ M1 11 5 = M 11 5 ∧ M1 10 2 = M 10 2 ∧ M1 10 4 = M 10 4 ∧ M1 10 6 = M 10 6 ∧ M1 20 5 = M 20 5 ∧ M1 19 2 = M 19 2 ∧ M1 19 4 = M 19 4 ∧ M1 19 6 = M 19 6 ∧ M1 29 0 = M 29 0 ∧ M1 29 1 = M 29 1 ∧ M1 31 1 = M 31 1 ∧ (((b < 0 ∨ 3 < b ∨ c < 0 ∨ 100 < c) → r = -1 ∧ M1 1 4 = M 1 4) ∧ (0 ≤ b → b ≤ 3 → 0 ≤ c → c ≤ 100 → (a < 0 ∨ M 2 5 ≤ a) → r = -2 ∧ M1 1 4 = M 1 4) ∧ (0 ≤ b → b ≤ 3 → 0 ≤ c → c ≤ 100 → 0 ≤ a → a < M 2 5 → 6 ≤ M 1 4 → r = -5 ∧ M1 1 4 = M 1 4) ∧ (0 ≤ b → b ≤ 3 → 0 ≤ c → c ≤ 100 → 0 ≤ a → a < M 2 5 → M 1 4 < 6 → r = M 1 4 + 1 ∧ M1 1 4 = M 1 4 + 1)))) 0 [(0, vr X 0), (1, vi a), (2, vi b), (3, vi c)] [] M
  refine g_iload_n (pc' := 1) 2 dX9_addTasting_0 rfl rfl ?_
  refine g_callSip (pc' := 4) (As := [vi b]) (S := []) dX9_addTasting_1 rfl m_X9_101 w_X9_isStuff (c_X9_isStuff X M b hb) rfl (by decide) (by decide) rfl (Nat.le_of_ble_eq_true rfl) (fun z2 q1 => ?_)
  refine g_if_eq (pc' := 7) (tgt := 17) ⟨by omega, by omega⟩ dX9_addTasting_4 rfl rfl (fun c3 => ?_) (fun c3 => ?_)
  · replace q1 := q1.resolve_left (fun h => absurd (c3.symm.trans h.1) (by decide))
    refine g_iconst (pc' := 18) dX9_addTasting_17 rfl ?_
    refine g_ireturn dX9_addTasting_18 ?_
    exact ⟨hi, Fr.rf, rfl, rfl, rfl, rfl, rfl, rfl, rfl, rfl, rfl, rfl, rfl, rfl, rfl, rfl, by omega⟩
  · replace q1 := q1.resolve_right (fun h => c3 h.1)
    refine g_iload_n (pc' := 8) 3 dX9_addTasting_7 rfl rfl ?_
    refine g_iconst (pc' := 9) dX9_addTasting_8 rfl ?_
    refine g_bipush (pc' := 11) (v := 100) dX9_addTasting_9 rfl (by decide) ?_
    refine g_callSip (pc' := 14) (As := [vi c, vi 0, vi 100]) (S := []) dX9_addTasting_11 rfl m_X9_191 w_X9_isWithin (c_X9_isWithin X M c hc 0 (by decide) 100 (by decide)) rfl (by decide) (by decide) rfl (Nat.le_of_ble_eq_true rfl) (fun z5 q4 => ?_)
    refine g_if_ne (pc' := 17) (tgt := 19) ⟨by omega, by omega⟩ dX9_addTasting_14 rfl rfl (fun c6 => ?_) (fun c6 => ?_)
    · replace q4 := q4.resolve_right (fun h => c6 h.1)
      refine g_aload_n (pc' := 20) 0 dX9_addTasting_19 rfl rfl ?_
      refine g_getR (pc' := 23) dX9_addTasting_20 rfl f_X9_12 rfl rfl ?_
      refine g_getR (pc' := 26) dX9_addTasting_23 rfl f_X9_86 rfl rfl ?_
      refine g_iload_n (pc' := 27) 1 dX9_addTasting_26 rfl rfl ?_
      refine g_callVip (pc' := 30) (As := [vi a]) (b := 2) (S := []) dX9_addTasting_27 rfl m_X9_92 w_X7_has (c_X7_has X M 2 isT_2 (hi.1 _ isT_2) a ha) rfl ⟨_, _, _, rfl, rfl, rfl⟩ (by decide) (by decide) rfl (Nat.le_of_ble_eq_true rfl) (fun z8 q7 => ?_)
      refine g_if_ne (pc' := 33) (tgt := 36) ⟨by omega, by omega⟩ dX9_addTasting_30 rfl rfl (fun c9 => ?_) (fun c9 => ?_)
      · replace q7 := q7.resolve_right (fun h => c9 h.1)
        refine g_aload_n (pc' := 37) 0 dX9_addTasting_36 rfl rfl ?_
        refine g_getR (pc' := 40) dX9_addTasting_37 rfl f_X9_12 rfl rfl ?_
        refine g_getI (pc' := 43) dX9_addTasting_40 rfl f_X9_213 rfl rfl (fun v10 ev10 rv10 => ?_)
        have bv10 : 0 ≤ v10 ∧ v10 ≤ 6 := by rw [ev10]; exact hi.2.1.1.2.1
        have av10 : v10 = M 1 4 := ev10
        refine g_bipush (pc' := 45) (v := 6) dX9_addTasting_43 rfl (by decide) ?_
        refine g_ic_lt (pc' := 48) (tgt := 51) rv10 (by decide) dX9_addTasting_45 rfl rfl (fun c11 => ?_) (fun c11 => ?_)
        · refine g_aload_n (pc' := 52) 0 dX9_addTasting_51 rfl rfl ?_
          refine g_getR (pc' := 55) dX9_addTasting_52 rfl f_X9_12 rfl rfl ?_
          refine g_getR (pc' := 58) dX9_addTasting_55 rfl f_X9_226 rfl rfl ?_
          refine g_aload_n (pc' := 59) 0 dX9_addTasting_58 rfl rfl ?_
          refine g_getR (pc' := 62) dX9_addTasting_59 rfl f_X9_12 rfl rfl ?_
          refine g_getI (pc' := 65) dX9_addTasting_62 rfl f_X9_213 rfl rfl (fun v12 ev12 rv12 => ?_)
          obtain rfl : v10 = v12 := ev10.trans ev12.symm
          refine g_iload_n (pc' := 66) 1 dX9_addTasting_65 rfl rfl ?_
          refine g_iload_n (pc' := 67) 2 dX9_addTasting_66 rfl rfl ?_
          refine g_iload_n (pc' := 68) 3 dX9_addTasting_67 rfl rfl ?_
          refine g_callSv (pc' := 71) (As := [vr X 8, vi v10, vi a, vi b, vi c]) (S := []) dX9_addTasting_68 rfl m_X9_229 w_X9_putTriple (c_X9_putTriple X M hi 8 18 rfl (by unfold free isT; omega) v10 rv10 a ha b hb c hc ⟨by omega, by omega⟩) rfl (by decide) (by decide) rfl (Nat.le_of_ble_eq_true rfl) (fun M14 q13 => ?_)
          obtain ⟨iM14, fM140⟩ := q13
          have fM14 : Fr (fun c => c = 1 ∨ c = 8) M M14 := Fr.tr Fr.rf fM140 (fun c z => by first | omega | (dsimp only at z ⊢; omega))
          have q2_5_M14 : id (M14 2 5 = M 2 5) := (congrFun (fM140 2 (by first | decide | omega | (dsimp only; omega))) 5)
          have q1_2_M14 : id (M14 1 2 = M 1 2) := (congrFun (fM140 1 (by first | decide | omega | (dsimp only; omega))) 2)
          have q1_6_M14 : id (M14 1 6 = M 1 6) := (congrFun (fM140 1 (by first | decide | omega | (dsimp only; omega))) 6)
          have q11_5_M14 : id (M14 11 5 = M 11 5) := (congrFun (fM140 11 (by first | decide | omega | (dsimp only; omega))) 5)
          have q10_2_M14 : id (M14 10 2 = M 10 2) := (congrFun (fM140 10 (by first | decide | omega | (dsimp only; omega))) 2)
          have q10_4_M14 : id (M14 10 4 = M 10 4) := (congrFun (fM140 10 (by first | decide | omega | (dsimp only; omega))) 4)
          have q10_6_M14 : id (M14 10 6 = M 10 6) := (congrFun (fM140 10 (by first | decide | omega | (dsimp only; omega))) 6)
          have q20_5_M14 : id (M14 20 5 = M 20 5) := (congrFun (fM140 20 (by first | decide | omega | (dsimp only; omega))) 5)
          have q19_2_M14 : id (M14 19 2 = M 19 2) := (congrFun (fM140 19 (by first | decide | omega | (dsimp only; omega))) 2)
          have q19_4_M14 : id (M14 19 4 = M 19 4) := (congrFun (fM140 19 (by first | decide | omega | (dsimp only; omega))) 4)
          have q19_6_M14 : id (M14 19 6 = M 19 6) := (congrFun (fM140 19 (by first | decide | omega | (dsimp only; omega))) 6)
          have q29_0_M14 : id (M14 29 0 = M 29 0) := (congrFun (fM140 29 (by first | decide | omega | (dsimp only; omega))) 0)
          have q29_1_M14 : id (M14 29 1 = M 29 1) := (congrFun (fM140 29 (by first | decide | omega | (dsimp only; omega))) 1)
          have q31_1_M14 : id (M14 31 1 = M 31 1) := (congrFun (fM140 31 (by first | decide | omega | (dsimp only; omega))) 1)
          have q1_4_M14 : (M14 1 4 = M 1 4) := (congrFun (fM140 1 (by first | decide | omega | (dsimp only; omega))) 4)
          have wM14_1_4 : M14 1 4 = M 1 4 := (congrFun (fM140 1 (by first | decide | omega | (dsimp only; omega))) 4)
          refine g_aload_n (pc' := 72) 0 dX9_addTasting_71 rfl rfl ?_
          refine g_getR (pc' := 75) dX9_addTasting_72 rfl f_X9_12 rfl rfl ?_
          refine g_dup (pc' := 76) dX9_addTasting_75 rfl rfl ?_
          refine g_getI (pc' := 79) dX9_addTasting_76 rfl f_X9_213 rfl rfl (fun v15 ev15 rv15 => ?_)
          have bv15 : 0 ≤ v15 ∧ v15 ≤ 6 := by rw [ev15]; exact iM14.2.1.1.2.1
          have av15 : v15 = M 1 4 := ev15.trans q1_4_M14
          obtain rfl : v10 = v15 := av10.trans av15.symm
          refine g_iconst (pc' := 80) dX9_addTasting_79 rfl ?_
          refine g_iadd (pc' := 81) dX9_addTasting_80 rfl ?_
          refine g_putI (pc' := 84) dX9_addTasting_81 rfl p_X9_213 rfl rfl ⟨by omega, by omega⟩ (fun M16 hM16 => ?_)
          have iM16 : IC M16 := IC.wr iM14 hM16 (by unfold okw isT; first | decide | omega)
          have fM16 : Fr (fun c => c = 1 ∨ c = 8) M M16 := Fr.wr fM14 hM16 (by first | decide | omega | (dsimp only; omega))
          have q2_5_M16 : id (M16 2 5 = M 2 5) := (show M16 2 5 = M14 2 5 by rw [hM16]; exact mu_ne _ _ (by first | decide | omega)).trans q2_5_M14
          have q1_2_M16 : id (M16 1 2 = M 1 2) := (show M16 1 2 = M14 1 2 by rw [hM16]; exact mu_ne _ _ (by first | decide | omega)).trans q1_2_M14
          have q1_6_M16 : id (M16 1 6 = M 1 6) := (show M16 1 6 = M14 1 6 by rw [hM16]; exact mu_ne _ _ (by first | decide | omega)).trans q1_6_M14
          have q11_5_M16 : id (M16 11 5 = M 11 5) := (show M16 11 5 = M14 11 5 by rw [hM16]; exact mu_ne _ _ (by first | decide | omega)).trans q11_5_M14
          have q10_2_M16 : id (M16 10 2 = M 10 2) := (show M16 10 2 = M14 10 2 by rw [hM16]; exact mu_ne _ _ (by first | decide | omega)).trans q10_2_M14
          have q10_4_M16 : id (M16 10 4 = M 10 4) := (show M16 10 4 = M14 10 4 by rw [hM16]; exact mu_ne _ _ (by first | decide | omega)).trans q10_4_M14
          have q10_6_M16 : id (M16 10 6 = M 10 6) := (show M16 10 6 = M14 10 6 by rw [hM16]; exact mu_ne _ _ (by first | decide | omega)).trans q10_6_M14
          have q20_5_M16 : id (M16 20 5 = M 20 5) := (show M16 20 5 = M14 20 5 by rw [hM16]; exact mu_ne _ _ (by first | decide | omega)).trans q20_5_M14
          have q19_2_M16 : id (M16 19 2 = M 19 2) := (show M16 19 2 = M14 19 2 by rw [hM16]; exact mu_ne _ _ (by first | decide | omega)).trans q19_2_M14
          have q19_4_M16 : id (M16 19 4 = M 19 4) := (show M16 19 4 = M14 19 4 by rw [hM16]; exact mu_ne _ _ (by first | decide | omega)).trans q19_4_M14
          have q19_6_M16 : id (M16 19 6 = M 19 6) := (show M16 19 6 = M14 19 6 by rw [hM16]; exact mu_ne _ _ (by first | decide | omega)).trans q19_6_M14
          have q29_0_M16 : id (M16 29 0 = M 29 0) := (show M16 29 0 = M14 29 0 by rw [hM16]; exact mu_ne _ _ (by first | decide | omega)).trans q29_0_M14
          have q29_1_M16 : id (M16 29 1 = M 29 1) := (show M16 29 1 = M14 29 1 by rw [hM16]; exact mu_ne _ _ (by first | decide | omega)).trans q29_1_M14
          have q31_1_M16 : id (M16 31 1 = M 31 1) := (show M16 31 1 = M14 31 1 by rw [hM16]; exact mu_ne _ _ (by first | decide | omega)).trans q31_1_M14
          have xM16_1_4 : M16 1 4 = v10 + 1 := by rw [hM16]; exact mu_at _ _ _ _
          refine g_aload_n (pc' := 85) 0 dX9_addTasting_84 rfl rfl ?_
          refine g_getR (pc' := 88) dX9_addTasting_85 rfl f_X9_12 rfl rfl ?_
          refine g_getI (pc' := 91) dX9_addTasting_88 rfl f_X9_213 rfl rfl (fun v17 ev17 rv17 => ?_)
          have bv17 : 0 ≤ v17 ∧ v17 ≤ 6 := by rw [ev17]; exact iM16.2.1.1.2.1
          have yv17 : v17 = v10 + 1 := ev17.trans xM16_1_4
          refine g_ireturn dX9_addTasting_91 ?_
          exact ⟨iM16, fM16, q2_5_M16, q1_2_M16, q1_6_M16, q11_5_M16, q10_2_M16, q10_4_M16, q10_6_M16, q20_5_M16, q19_2_M16, q19_4_M16, q19_6_M16, q29_0_M16, q29_1_M16, q31_1_M16, by omega⟩
        · refine g_bipush (pc' := 50) (v := (-5)) dX9_addTasting_48 rfl (by decide) ?_
          refine g_ireturn dX9_addTasting_50 ?_
          exact ⟨hi, Fr.rf, rfl, rfl, rfl, rfl, rfl, rfl, rfl, rfl, rfl, rfl, rfl, rfl, rfl, rfl, by omega⟩
      · replace q7 := q7.resolve_left (fun h => absurd (c9.symm.trans h.1) (by decide))
        refine g_bipush (pc' := 35) (v := (-2)) dX9_addTasting_33 rfl (by decide) ?_
        refine g_ireturn dX9_addTasting_35 ?_
        exact ⟨hi, Fr.rf, rfl, rfl, rfl, rfl, rfl, rfl, rfl, rfl, rfl, rfl, rfl, rfl, rfl, rfl, by omega⟩
    · replace q4 := q4.resolve_left (fun h => absurd (c6.symm.trans h.1) (by decide))
      refine g_iconst (pc' := 18) dX9_addTasting_17 rfl ?_
      refine g_ireturn dX9_addTasting_18 ?_
      exact ⟨hi, Fr.rf, rfl, rfl, rfl, rfl, rfl, rfl, rfl, rfl, rfl, rfl, rfl, rfl, rfl, rfl, by omega⟩
set_option maxHeartbeats 4000000 in
set_option maxRecDepth 100000 in
theorem c_X9_tasting (X : Cx) (M : Mm) (hi : IC M) (a : Int) (ha : inI a) (b : Int) (hb : inI b) (c : Int) (hc : inI c) : Con X 4 yX9_tasting cX9_tasting 4 (some .int) [vr X 0, vi a, vi b, vi c] M (Qi (fun r M1 => IC M1 ∧ Fr (fun c => c ≤ 96) M M1 ∧ M1 2 5 = M 2 5 ∧ M1 1 2 = M 1 2 ∧ M1 1 6 = M 1 6 ∧ M1 11 5 = M 11 5 ∧ M1 10 2 = M 10 2 ∧ M1 10 4 = M 10 4 ∧ M1 10 6 = M 10 6 ∧ M1 20 5 = M 20 5 ∧ M1 19 2 = M 19 2 ∧ M1 19 4 = M 19 4 ∧ M1 19 6 = M 19 6 ∧ M1 29 0 = M 29 0 ∧ M1 29 1 = M 29 1 ∧ M1 31 1 = M 31 1 ∧ (((b < 0 ∨ 3 < b ∨ c < 0 ∨ 100 < c) → r = -1 ∧ M1 1 4 = M 1 4) ∧ (0 ≤ b → b ≤ 3 → 0 ≤ c → c ≤ 100 → (a < 0 ∨ M 2 5 ≤ a) → r = -2 ∧ M1 1 4 = M 1 4) ∧ (0 ≤ b → b ≤ 3 → 0 ≤ c → c ≤ 100 → 0 ≤ a → a < M 2 5 → 6 ≤ M 1 4 → r = -5 ∧ M1 1 4 = M 1 4) ∧ (0 ≤ b → b ≤ 3 → 0 ≤ c → c ≤ 100 → 0 ≤ a → a < M 2 5 → M 1 4 < 6 → r = M 1 4 + 1 ∧ M1 1 4 = M 1 4 + 1)))) := by
  refine Con.ofG rfl (Nat.le_of_ble_eq_true rfl) ?_
  show G X 4 RX9 cX9_tasting 4 (some .int) (Qi (fun r M1 => IC M1 ∧ Fr (fun c => c ≤ 96) M M1 ∧ M1 2 5 = M 2 5 ∧ M1 1 2 = M 1 2 ∧ M1 1 6 = M 1 6 ∧ M1 11 5 = M 11 5 ∧ M1 10 2 = M 10 2 ∧ M1 10 4 = M 10 4 ∧ M1 10 6 = M 10 6 ∧ M1 20 5 = M 20 5 ∧ M1 19 2 = M 19 2 ∧ M1 19 4 = M 19 4 ∧ M1 19 6 = M 19 6 ∧ M1 29 0 = M 29 0 ∧ M1 29 1 = M 29 1 ∧ M1 31 1 = M 31 1 ∧ (((b < 0 ∨ 3 < b ∨ c < 0 ∨ 100 < c) → r = -1 ∧ M1 1 4 = M 1 4) ∧ (0 ≤ b → b ≤ 3 → 0 ≤ c → c ≤ 100 → (a < 0 ∨ M 2 5 ≤ a) → r = -2 ∧ M1 1 4 = M 1 4) ∧ (0 ≤ b → b ≤ 3 → 0 ≤ c → c ≤ 100 → 0 ≤ a → a < M 2 5 → 6 ≤ M 1 4 → r = -5 ∧ M1 1 4 = M 1 4) ∧ (0 ≤ b → b ≤ 3 → 0 ≤ c → c ≤ 100 → 0 ≤ a → a < M 2 5 → M 1 4 < 6 → r = M 1 4 + 1 ∧ M1 1 4 = M 1 4 + 1)))) 0 [(0, vr X 0), (1, vi a), (2, vi b), (3, vi c)] [] M
  have hi5 := (hi.1 2 isT_2).2.1
  have hi4 := (hi.1 2 isT_2).1
  have h12 := hi.2.1.1.1
  have h14 := hi.2.1.1.2.1
  have h16 := hi.2.1.1.2.2
  refine g_aload_n (pc' := 1) 0 dX9_tasting_0 rfl rfl ?_
  refine g_aload_n (pc' := 2) 0 dX9_tasting_1 rfl rfl ?_
  refine g_iload_n (pc' := 3) 1 dX9_tasting_2 rfl rfl ?_
  refine g_iload_n (pc' := 4) 2 dX9_tasting_3 rfl rfl ?_
  refine g_iload_n (pc' := 5) 3 dX9_tasting_4 rfl rfl ?_
  refine g_callVi (pc' := 8) (As := [vi a, vi b, vi c]) (b := 0) (S := [vr X 0]) dX9_tasting_5 rfl m_X9_223 w_X9_addTasting (c_X9_addTasting X M hi a ha b hb c hc) rfl ⟨_, _, _, rfl, rfl, rfl⟩ (by decide) (by decide) rfl (Nat.le_of_ble_eq_true rfl) (fun z2 M3 q1 => ?_)
  obtain ⟨iM3, fM30, eM3_2_5, eM3_1_2, eM3_1_6, eM3_11_5, eM3_10_2, eM3_10_4, eM3_10_6, eM3_20_5, eM3_19_2, eM3_19_4, eM3_19_6, eM3_29_0, eM3_29_1, eM3_31_1, pM3⟩ := q1
  have fM3 : Fr (fun c => c ≤ 96) M M3 := Fr.tr Fr.rf fM30 fi_17
  have q2_5_M3 : id (M3 2 5 = M 2 5) := eM3_2_5
  have q1_2_M3 : id (M3 1 2 = M 1 2) := eM3_1_2
  have q1_6_M3 : id (M3 1 6 = M 1 6) := eM3_1_6
  have q11_5_M3 : id (M3 11 5 = M 11 5) := eM3_11_5
  have q10_2_M3 : id (M3 10 2 = M 10 2) := eM3_10_2
  have q10_4_M3 : id (M3 10 4 = M 10 4) := eM3_10_4
  have q10_6_M3 : id (M3 10 6 = M 10 6) := eM3_10_6
  have q20_5_M3 : id (M3 20 5 = M 20 5) := eM3_20_5
  have q19_2_M3 : id (M3 19 2 = M 19 2) := eM3_19_2
  have q19_4_M3 : id (M3 19 4 = M 19 4) := eM3_19_4
  have q19_6_M3 : id (M3 19 6 = M 19 6) := eM3_19_6
  have q29_0_M3 : id (M3 29 0 = M 29 0) := eM3_29_0
  have q29_1_M3 : id (M3 29 1 = M 29 1) := eM3_29_1
  have q31_1_M3 : id (M3 31 1 = M 31 1) := eM3_31_1
  clear eM3_2_5 eM3_1_2 eM3_1_6 eM3_11_5 eM3_10_2 eM3_10_4 eM3_10_6 eM3_20_5 eM3_19_2 eM3_19_4 eM3_19_6 eM3_29_0 eM3_29_1 eM3_31_1
  refine g_callVi (pc' := 11) (As := [vi z2]) (b := 0) (S := []) dX9_tasting_8 rfl m_X9_79 w_X9_answered (c_X9_answered X M3 iM3 z2 ⟨by omega, by omega⟩) rfl ⟨_, _, _, rfl, rfl, rfl⟩ (by decide) (by decide) rfl (Nat.le_of_ble_eq_true rfl) (fun z5 M6 q4 => ?_)
  obtain ⟨iM6, fM60, eM6_2_5, eM6_1_2, eM6_1_4, eM6_1_6, eM6_11_5, eM6_10_2, eM6_10_4, eM6_10_6, eM6_20_5, eM6_19_2, eM6_19_4, eM6_19_6, eM6_29_0, eM6_29_1, eM6_31_1, pM6⟩ := q4
  have fM6 : Fr (fun c => c ≤ 96) M M6 := Fr.tr fM3 fM60 fi_10
  have q2_5_M6 : id (M6 2 5 = M 2 5) := eM6_2_5.trans q2_5_M3
  have q1_2_M6 : id (M6 1 2 = M 1 2) := eM6_1_2.trans q1_2_M3
  have q1_6_M6 : id (M6 1 6 = M 1 6) := eM6_1_6.trans q1_6_M3
  have q11_5_M6 : id (M6 11 5 = M 11 5) := eM6_11_5.trans q11_5_M3
  have q10_2_M6 : id (M6 10 2 = M 10 2) := eM6_10_2.trans q10_2_M3
  have q10_4_M6 : id (M6 10 4 = M 10 4) := eM6_10_4.trans q10_4_M3
  have q10_6_M6 : id (M6 10 6 = M 10 6) := eM6_10_6.trans q10_6_M3
  have q20_5_M6 : id (M6 20 5 = M 20 5) := eM6_20_5.trans q20_5_M3
  have q19_2_M6 : id (M6 19 2 = M 19 2) := eM6_19_2.trans q19_2_M3
  have q19_4_M6 : id (M6 19 4 = M 19 4) := eM6_19_4.trans q19_4_M3
  have q19_6_M6 : id (M6 19 6 = M 19 6) := eM6_19_6.trans q19_6_M3
  have q29_0_M6 : id (M6 29 0 = M 29 0) := eM6_29_0.trans q29_0_M3
  have q29_1_M6 : id (M6 29 1 = M 29 1) := eM6_29_1.trans q29_1_M3
  have q31_1_M6 : id (M6 31 1 = M 31 1) := eM6_31_1.trans q31_1_M3
  have wM6_1_4 : M6 1 4 = M3 1 4 := eM6_1_4
  clear eM6_2_5 eM6_1_2 eM6_1_6 eM6_11_5 eM6_10_2 eM6_10_4 eM6_10_6 eM6_20_5 eM6_19_2 eM6_19_4 eM6_19_6 eM6_29_0 eM6_29_1 eM6_31_1
  refine g_ireturn dX9_tasting_11 ?_
  exact ⟨iM6, fM6, q2_5_M6, q1_2_M6, q1_6_M6, q11_5_M6, q10_2_M6, q10_4_M6, q10_6_M6, q20_5_M6, q19_2_M6, q19_4_M6, q19_6_M6, q29_0_M6, q29_1_M6, q31_1_M6, by omega⟩
set_option maxHeartbeats 4000000 in
set_option maxRecDepth 100000 in
theorem c_X9_fits (X : Cx) (M : Mm) (hi : IC M) (a : Int) (ha : inI a) (b : Int) (hb : inI b) (c : Int) (hc : inI c) : Con X 20 yX9_fits cX9_fits 5 (some .int) [vr X 0, vi a, vi b, vi c] M (Qi (fun r M1 => IC M1 ∧ Fr (fun c => c ≤ 96) M M1 ∧ M1 2 5 = M 2 5 ∧ M1 1 2 = M 1 2 ∧ M1 1 4 = M 1 4 ∧ M1 1 6 = M 1 6 ∧ M1 11 5 = M 11 5 ∧ M1 10 2 = M 10 2 ∧ M1 10 4 = M 10 4 ∧ M1 10 6 = M 10 6 ∧ M1 20 5 = M 20 5 ∧ M1 19 2 = M 19 2 ∧ M1 19 4 = M 19 4 ∧ M1 19 6 = M 19 6 ∧ M1 29 0 = M 29 0 ∧ M1 29 1 = M 29 1 ∧ M1 31 1 = M 31 1 ∧ (inI r))) := by
  refine Con.ofG rfl (Nat.le_of_ble_eq_true rfl) ?_
  show G X 20 RX9 cX9_fits 5 (some .int) (Qi (fun r M1 => IC M1 ∧ Fr (fun c => c ≤ 96) M M1 ∧ M1 2 5 = M 2 5 ∧ M1 1 2 = M 1 2 ∧ M1 1 4 = M 1 4 ∧ M1 1 6 = M 1 6 ∧ M1 11 5 = M 11 5 ∧ M1 10 2 = M 10 2 ∧ M1 10 4 = M 10 4 ∧ M1 10 6 = M 10 6 ∧ M1 20 5 = M 20 5 ∧ M1 19 2 = M 19 2 ∧ M1 19 4 = M 19 4 ∧ M1 19 6 = M 19 6 ∧ M1 29 0 = M 29 0 ∧ M1 29 1 = M 29 1 ∧ M1 31 1 = M 31 1 ∧ (inI r))) 0 [(0, vr X 0), (1, vi a), (2, vi b), (3, vi c)] [] M
  refine g_iload_n (pc' := 1) 1 dX9_fits_0 rfl rfl ?_
  refine g_iconst (pc' := 2) dX9_fits_1 rfl ?_
  refine g_iconst (pc' := 3) dX9_fits_2 rfl ?_
  refine g_callSip (pc' := 6) (As := [vi a, vi 0, vi 3]) (S := []) dX9_fits_3 rfl m_X9_191 w_X9_isWithin (c_X9_isWithin X M a ha 0 (by decide) 3 (by decide)) rfl (by decide) (by decide) rfl (Nat.le_of_ble_eq_true rfl) (fun z2 q1 => ?_)
  refine g_if_ne (pc' := 9) (tgt := 11) ⟨by omega, by omega⟩ dX9_fits_6 rfl rfl (fun c3 => ?_) (fun c3 => ?_)
  · replace q1 := q1.resolve_right (fun h => c3 h.1)
    refine g_aload_n (pc' := 12) 0 dX9_fits_11 rfl rfl ?_
    refine g_getR (pc' := 15) dX9_fits_12 rfl f_X9_46 rfl rfl ?_
    refine g_aload_n (pc' := 16) 0 dX9_fits_15 rfl rfl ?_
    refine g_getR (pc' := 19) dX9_fits_16 rfl f_X9_12 rfl rfl ?_
    refine g_iload_n (pc' := 20) 1 dX9_fits_19 rfl rfl ?_
    refine g_callVi (pc' := 23) (As := [vr X 1, vi a]) (b := 60) (S := []) dX9_fits_20 rfl m_X9_233 w_X5_fitting (c_X5_fitting X M hi a ha) rfl ⟨_, _, _, rfl, rfl, rfl⟩ (by decide) (by decide) rfl (Nat.le_of_ble_eq_true rfl) (fun z5 M6 q4 => ?_)
    obtain ⟨iM6, fM60, pM6⟩ := q4
    have fM6 : Fr (fun c => c ≤ 96) M M6 := Fr.tr Fr.rf fM60 fi_16
    have q2_5_M6 : id (M6 2 5 = M 2 5) := (congrFun (fM60 2 (by first | decide | omega | (dsimp only; omega))) 5)
    have q1_2_M6 : id (M6 1 2 = M 1 2) := (congrFun (fM60 1 (by first | decide | omega | (dsimp only; omega))) 2)
    have q1_4_M6 : id (M6 1 4 = M 1 4) := (congrFun (fM60 1 (by first | decide | omega | (dsimp only; omega))) 4)
    have q1_6_M6 : id (M6 1 6 = M 1 6) := (congrFun (fM60 1 (by first | decide | omega | (dsimp only; omega))) 6)
    have q11_5_M6 : id (M6 11 5 = M 11 5) := (congrFun (fM60 11 (by first | decide | omega | (dsimp only; omega))) 5)
    have q10_2_M6 : id (M6 10 2 = M 10 2) := (congrFun (fM60 10 (by first | decide | omega | (dsimp only; omega))) 2)
    have q10_4_M6 : id (M6 10 4 = M 10 4) := (congrFun (fM60 10 (by first | decide | omega | (dsimp only; omega))) 4)
    have q10_6_M6 : id (M6 10 6 = M 10 6) := (congrFun (fM60 10 (by first | decide | omega | (dsimp only; omega))) 6)
    have q20_5_M6 : id (M6 20 5 = M 20 5) := (congrFun (fM60 20 (by first | decide | omega | (dsimp only; omega))) 5)
    have q19_2_M6 : id (M6 19 2 = M 19 2) := (congrFun (fM60 19 (by first | decide | omega | (dsimp only; omega))) 2)
    have q19_4_M6 : id (M6 19 4 = M 19 4) := (congrFun (fM60 19 (by first | decide | omega | (dsimp only; omega))) 4)
    have q19_6_M6 : id (M6 19 6 = M 19 6) := (congrFun (fM60 19 (by first | decide | omega | (dsimp only; omega))) 6)
    have q29_0_M6 : id (M6 29 0 = M 29 0) := (congrFun (fM60 29 (by first | decide | omega | (dsimp only; omega))) 0)
    have q29_1_M6 : id (M6 29 1 = M 29 1) := (congrFun (fM60 29 (by first | decide | omega | (dsimp only; omega))) 1)
    have q31_1_M6 : id (M6 31 1 = M 31 1) := (congrFun (fM60 31 (by first | decide | omega | (dsimp only; omega))) 1)
    refine g_istore (pc' := 25) (L' := [(4, vi z5), (0, vr X 0), (1, vi a), (2, vi b), (3, vi c)]) dX9_fits_23 rfl (by decide) rfl ?_
    refine g_iload_n (pc' := 26) 3 dX9_fits_25 rfl rfl ?_
    refine g_iconst (pc' := 27) dX9_fits_26 rfl ?_
    refine g_ic_ne (pc' := 30) (tgt := 33) hb (by decide) dX9_fits_27 rfl rfl (fun c7 => ?_) (fun c7 => ?_)
    · refine g_iload (pc' := 35) 0 dX9_fits_33 rfl rfl ?_
      refine g_if_ne (pc' := 38) (tgt := 42) ⟨by omega, by omega⟩ dX9_fits_35 rfl rfl (fun c8 => ?_) (fun c8 => ?_)
      · refine g_aload_n (pc' := 43) 1 dX9_fits_42 rfl rfl ?_
        refine g_getR (pc' := 46) dX9_fits_43 rfl f_X9_46 rfl rfl ?_
        refine g_iload_n (pc' := 47) 2 dX9_fits_46 rfl rfl ?_
        refine g_iload_n (pc' := 48) 3 dX9_fits_47 rfl rfl ?_
        refine g_iload_n (pc' := 49) 4 dX9_fits_48 rfl rfl ?_
        refine g_callVip (pc' := 52) (As := [vi a, vi b, vi c]) (b := 60) (S := []) dX9_fits_49 rfl m_X9_220 w_X5_ofFirst (c_X5_ofFirst X M6 iM6 a ha b hb c hc) rfl ⟨_, _, _, rfl, rfl, rfl⟩ (by decide) (by decide) rfl (Nat.le_of_ble_eq_true rfl) (fun z10 q9 => ?_)
        refine g_ireturn dX9_fits_52 ?_
        exact ⟨iM6, fM6, q2_5_M6, q1_2_M6, q1_4_M6, q1_6_M6, q11_5_M6, q10_2_M6, q10_4_M6, q10_6_M6, q20_5_M6, q19_2_M6, q19_4_M6, q19_6_M6, q29_0_M6, q29_1_M6, q31_1_M6, by omega⟩
      · refine g_iconst (pc' := 39) dX9_fits_38 rfl ?_
        refine g_goto (tgt := 52) dX9_fits_39 rfl ?_
        refine g_ireturn dX9_fits_52 ?_
        exact ⟨iM6, fM6, q2_5_M6, q1_2_M6, q1_4_M6, q1_6_M6, q11_5_M6, q10_2_M6, q10_4_M6, q10_6_M6, q20_5_M6, q19_2_M6, q19_4_M6, q19_6_M6, q29_0_M6, q29_1_M6, q31_1_M6, by omega⟩
    · refine g_iload (pc' := 32) 0 dX9_fits_30 rfl rfl ?_
      refine g_ireturn dX9_fits_32 ?_
      exact ⟨iM6, fM6, q2_5_M6, q1_2_M6, q1_4_M6, q1_6_M6, q11_5_M6, q10_2_M6, q10_4_M6, q10_6_M6, q20_5_M6, q19_2_M6, q19_4_M6, q19_6_M6, q29_0_M6, q29_1_M6, q31_1_M6, by omega⟩
  · replace q1 := q1.resolve_left (fun h => absurd (c3.symm.trans h.1) (by decide))
    refine g_iconst (pc' := 10) dX9_fits_9 rfl ?_
    refine g_ireturn dX9_fits_10 ?_
    exact ⟨hi, Fr.rf, rfl, rfl, rfl, rfl, rfl, rfl, rfl, rfl, rfl, rfl, rfl, rfl, rfl, rfl, rfl, by omega⟩
set_option maxHeartbeats 4000000 in
set_option maxRecDepth 100000 in
theorem c_X9_addWine (X : Cx) (M : Mm) (hi : IC M) (a : Int) (ha : inI a) (b : Int) (hb : inI b) (c : Int) (hc : inI c) : Con X 3 yX9_addWine cX9_addWine 4 (some .int) [vr X 0, vi a, vi b, vi c] M (Qi (fun r M1 => IC M1 ∧ Fr (fun c => c = 1 ∨ c = 9) M M1 ∧ M1 2 5 = M 2 5 ∧ M1 1 2 = M 1 2 ∧ M1 1 4 = M 1 4 ∧ M1 11 5 = M 11 5 ∧ M1 10 2 = M 10 2 ∧ M1 10 4 = M 10 4 ∧ M1 10 6 = M 10 6 ∧ M1 20 5 = M 20 5 ∧ M1 19 2 = M 19 2 ∧ M1 19 4 = M 19 4 ∧ M1 19 6 = M 19 6 ∧ M1 29 0 = M 29 0 ∧ M1 29 1 = M 29 1 ∧ M1 31 1 = M 31 1 ∧ (((a < 0 ∨ 100 < a ∨ b < 0 ∨ 99 < b ∨ c < 0 ∨ 20 < c) → r = -1 ∧ M1 1 6 = M 1 6) ∧ (0 ≤ a → a ≤ 100 → 0 ≤ b → b ≤ 99 → 0 ≤ c → c ≤ 20 → 6 ≤ M 1 6 → r = -5 ∧ M1 1 6 = M 1 6) ∧ (0 ≤ a → a ≤ 100 → 0 ≤ b → b ≤ 99 → 0 ≤ c → c ≤ 20 → M 1 6 < 6 → r = M 1 6 ∧ M1 1 6 = M 1 6 + 1)))) := by
  refine Con.ofG rfl (Nat.le_of_ble_eq_true rfl) ?_
  show G X 3 RX9 cX9_addWine 4 (some .int) (Qi (fun r M1 => IC M1 ∧ Fr (fun c => c = 1 ∨ c = 9) M M1 ∧ M1 2 5 = M 2 5 ∧ M1 1 2 = M 1 2 ∧ M1 1 4 = M 1 4 ∧ M1 11 5 = M 11 5 ∧ M1 10 2 = M 10 2 ∧ M1 10 4 = M 10 4 ∧ M1 10 6 = M 10 6 ∧ M1 20 5 = M 20 5 ∧ M1 19 2 = M 19 2 ∧ M1 19 4 = M 19 4 ∧ M1 19 6 = M 19 6 ∧ M1 29 0 = M 29 0 ∧ M1 29 1 = M 29 1 ∧ M1 31 1 = M 31 1 ∧ (((a < 0 ∨ 100 < a ∨ b < 0 ∨ 99 < b ∨ c < 0 ∨ 20 < c) → r = -1 ∧ M1 1 6 = M 1 6) ∧ (0 ≤ a → a ≤ 100 → 0 ≤ b → b ≤ 99 → 0 ≤ c → c ≤ 20 → 6 ≤ M 1 6 → r = -5 ∧ M1 1 6 = M 1 6) ∧ (0 ≤ a → a ≤ 100 → 0 ≤ b → b ≤ 99 → 0 ≤ c → c ≤ 20 → M 1 6 < 6 → r = M 1 6 ∧ M1 1 6 = M 1 6 + 1)))) 0 [(0, vr X 0), (1, vi a), (2, vi b), (3, vi c)] [] M
  refine g_iload_n (pc' := 1) 1 dX9_addWine_0 rfl rfl ?_
  refine g_iconst (pc' := 2) dX9_addWine_1 rfl ?_
  refine g_bipush (pc' := 4) (v := 100) dX9_addWine_2 rfl (by decide) ?_
  refine g_callSip (pc' := 7) (As := [vi a, vi 0, vi 100]) (S := []) dX9_addWine_4 rfl m_X9_191 w_X9_isWithin (c_X9_isWithin X M a ha 0 (by decide) 100 (by decide)) rfl (by decide) (by decide) rfl (Nat.le_of_ble_eq_true rfl) (fun z2 q1 => ?_)
  refine g_if_eq (pc' := 10) (tgt := 30) ⟨by omega, by omega⟩ dX9_addWine_7 rfl rfl (fun c3 => ?_) (fun c3 => ?_)
  · replace q1 := q1.resolve_left (fun h => absurd (c3.symm.trans h.1) (by decide))
    refine g_iconst (pc' := 31) dX9_addWine_30 rfl ?_
    refine g_ireturn dX9_addWine_31 ?_
    exact ⟨hi, Fr.rf, rfl, rfl, rfl, rfl, rfl, rfl, rfl, rfl, rfl, rfl, rfl, rfl, rfl, rfl, by omega⟩
  · replace q1 := q1.resolve_right (fun h => c3 h.1)
    refine g_iload_n (pc' := 11) 2 dX9_addWine_10 rfl rfl ?_
    refine g_iconst (pc' := 12) dX9_addWine_11 rfl ?_
    refine g_bipush (pc' := 14) (v := 99) dX9_addWine_12 rfl (by decide) ?_
    refine g_callSip (pc' := 17) (As := [vi b, vi 0, vi 99]) (S := []) dX9_addWine_14 rfl m_X9_191 w_X9_isWithin (c_X9_isWithin X M b hb 0 (by decide) 99 (by decide)) rfl (by decide) (by decide) rfl (Nat.le_of_ble_eq_true rfl) (fun z5 q4 => ?_)
    refine g_if_eq (pc' := 20) (tgt := 30) ⟨by omega, by omega⟩ dX9_addWine_17 rfl rfl (fun c6 => ?_) (fun c6 => ?_)
    · replace q4 := q4.resolve_left (fun h => absurd (c6.symm.trans h.1) (by decide))
      refine g_iconst (pc' := 31) dX9_addWine_30 rfl ?_
      refine g_ireturn dX9_addWine_31 ?_
      exact ⟨hi, Fr.rf, rfl, rfl, rfl, rfl, rfl, rfl, rfl, rfl, rfl, rfl, rfl, rfl, rfl, rfl, by omega⟩
    · replace q4 := q4.resolve_right (fun h => c6 h.1)
      refine g_iload_n (pc' := 21) 3 dX9_addWine_20 rfl rfl ?_
      refine g_iconst (pc' := 22) dX9_addWine_21 rfl ?_
      refine g_bipush (pc' := 24) (v := 20) dX9_addWine_22 rfl (by decide) ?_
      refine g_callSip (pc' := 27) (As := [vi c, vi 0, vi 20]) (S := []) dX9_addWine_24 rfl m_X9_191 w_X9_isWithin (c_X9_isWithin X M c hc 0 (by decide) 20 (by decide)) rfl (by decide) (by decide) rfl (Nat.le_of_ble_eq_true rfl) (fun z8 q7 => ?_)
      refine g_if_ne (pc' := 30) (tgt := 32) ⟨by omega, by omega⟩ dX9_addWine_27 rfl rfl (fun c9 => ?_) (fun c9 => ?_)
      · replace q7 := q7.resolve_right (fun h => c9 h.1)
        refine g_aload_n (pc' := 33) 0 dX9_addWine_32 rfl rfl ?_
        refine g_getR (pc' := 36) dX9_addWine_33 rfl f_X9_12 rfl rfl ?_
        refine g_getI (pc' := 39) dX9_addWine_36 rfl f_X9_247 rfl rfl (fun v10 ev10 rv10 => ?_)
        have bv10 : 0 ≤ v10 ∧ v10 ≤ 6 := by rw [ev10]; exact hi.2.1.1.2.2
        have av10 : v10 = M 1 6 := ev10
        refine g_bipush (pc' := 41) (v := 6) dX9_addWine_39 rfl (by decide) ?_
        refine g_ic_lt (pc' := 44) (tgt := 47) rv10 (by decide) dX9_addWine_41 rfl rfl (fun c11 => ?_) (fun c11 => ?_)
        · refine g_aload_n (pc' := 48) 0 dX9_addWine_47 rfl rfl ?_
          refine g_getR (pc' := 51) dX9_addWine_48 rfl f_X9_12 rfl rfl ?_
          refine g_getR (pc' := 54) dX9_addWine_51 rfl f_X9_250 rfl rfl ?_
          refine g_aload_n (pc' := 55) 0 dX9_addWine_54 rfl rfl ?_
          refine g_getR (pc' := 58) dX9_addWine_55 rfl f_X9_12 rfl rfl ?_
          refine g_getI (pc' := 61) dX9_addWine_58 rfl f_X9_247 rfl rfl (fun v12 ev12 rv12 => ?_)
          obtain rfl : v10 = v12 := ev10.trans ev12.symm
          refine g_iload_n (pc' := 62) 1 dX9_addWine_61 rfl rfl ?_
          refine g_iload_n (pc' := 63) 2 dX9_addWine_62 rfl rfl ?_
          refine g_iload_n (pc' := 64) 3 dX9_addWine_63 rfl rfl ?_
          refine g_callSv (pc' := 67) (As := [vr X 9, vi v10, vi a, vi b, vi c]) (S := []) dX9_addWine_64 rfl m_X9_229 w_X9_putTriple (c_X9_putTriple X M hi 9 18 rfl (by unfold free isT; omega) v10 rv10 a ha b hb c hc ⟨by omega, by omega⟩) rfl (by decide) (by decide) rfl (Nat.le_of_ble_eq_true rfl) (fun M14 q13 => ?_)
          obtain ⟨iM14, fM140⟩ := q13
          have fM14 : Fr (fun c => c = 1 ∨ c = 9) M M14 := Fr.tr Fr.rf fM140 (fun c z => by first | omega | (dsimp only at z ⊢; omega))
          have q2_5_M14 : id (M14 2 5 = M 2 5) := (congrFun (fM140 2 (by first | decide | omega | (dsimp only; omega))) 5)
          have q1_2_M14 : id (M14 1 2 = M 1 2) := (congrFun (fM140 1 (by first | decide | omega | (dsimp only; omega))) 2)
          have q1_4_M14 : id (M14 1 4 = M 1 4) := (congrFun (fM140 1 (by first | decide | omega | (dsimp only; omega))) 4)
          have q11_5_M14 : id (M14 11 5 = M 11 5) := (congrFun (fM140 11 (by first | decide | omega | (dsimp only; omega))) 5)
          have q10_2_M14 : id (M14 10 2 = M 10 2) := (congrFun (fM140 10 (by first | decide | omega | (dsimp only; omega))) 2)
          have q10_4_M14 : id (M14 10 4 = M 10 4) := (congrFun (fM140 10 (by first | decide | omega | (dsimp only; omega))) 4)
          have q10_6_M14 : id (M14 10 6 = M 10 6) := (congrFun (fM140 10 (by first | decide | omega | (dsimp only; omega))) 6)
          have q20_5_M14 : id (M14 20 5 = M 20 5) := (congrFun (fM140 20 (by first | decide | omega | (dsimp only; omega))) 5)
          have q19_2_M14 : id (M14 19 2 = M 19 2) := (congrFun (fM140 19 (by first | decide | omega | (dsimp only; omega))) 2)
          have q19_4_M14 : id (M14 19 4 = M 19 4) := (congrFun (fM140 19 (by first | decide | omega | (dsimp only; omega))) 4)
          have q19_6_M14 : id (M14 19 6 = M 19 6) := (congrFun (fM140 19 (by first | decide | omega | (dsimp only; omega))) 6)
          have q29_0_M14 : id (M14 29 0 = M 29 0) := (congrFun (fM140 29 (by first | decide | omega | (dsimp only; omega))) 0)
          have q29_1_M14 : id (M14 29 1 = M 29 1) := (congrFun (fM140 29 (by first | decide | omega | (dsimp only; omega))) 1)
          have q31_1_M14 : id (M14 31 1 = M 31 1) := (congrFun (fM140 31 (by first | decide | omega | (dsimp only; omega))) 1)
          have q1_6_M14 : (M14 1 6 = M 1 6) := (congrFun (fM140 1 (by first | decide | omega | (dsimp only; omega))) 6)
          have wM14_1_6 : M14 1 6 = M 1 6 := (congrFun (fM140 1 (by first | decide | omega | (dsimp only; omega))) 6)
          refine g_aload_n (pc' := 68) 0 dX9_addWine_67 rfl rfl ?_
          refine g_getR (pc' := 71) dX9_addWine_68 rfl f_X9_12 rfl rfl ?_
          refine g_dup (pc' := 72) dX9_addWine_71 rfl rfl ?_
          refine g_getI (pc' := 75) dX9_addWine_72 rfl f_X9_247 rfl rfl (fun v15 ev15 rv15 => ?_)
          have bv15 : 0 ≤ v15 ∧ v15 ≤ 6 := by rw [ev15]; exact iM14.2.1.1.2.2
          have av15 : v15 = M 1 6 := ev15.trans q1_6_M14
          obtain rfl : v10 = v15 := av10.trans av15.symm
          refine g_iconst (pc' := 76) dX9_addWine_75 rfl ?_
          refine g_iadd (pc' := 77) dX9_addWine_76 rfl ?_
          refine g_putI (pc' := 80) dX9_addWine_77 rfl p_X9_247 rfl rfl ⟨by omega, by omega⟩ (fun M16 hM16 => ?_)
          have iM16 : IC M16 := IC.wr iM14 hM16 (by unfold okw isT; first | decide | omega)
          have fM16 : Fr (fun c => c = 1 ∨ c = 9) M M16 := Fr.wr fM14 hM16 (by first | decide | omega | (dsimp only; omega))
          have q2_5_M16 : id (M16 2 5 = M 2 5) := (show M16 2 5 = M14 2 5 by rw [hM16]; exact mu_ne _ _ (by first | decide | omega)).trans q2_5_M14
          have q1_2_M16 : id (M16 1 2 = M 1 2) := (show M16 1 2 = M14 1 2 by rw [hM16]; exact mu_ne _ _ (by first | decide | omega)).trans q1_2_M14
          have q1_4_M16 : id (M16 1 4 = M 1 4) := (show M16 1 4 = M14 1 4 by rw [hM16]; exact mu_ne _ _ (by first | decide | omega)).trans q1_4_M14
          have q11_5_M16 : id (M16 11 5 = M 11 5) := (show M16 11 5 = M14 11 5 by rw [hM16]; exact mu_ne _ _ (by first | decide | omega)).trans q11_5_M14
          have q10_2_M16 : id (M16 10 2 = M 10 2) := (show M16 10 2 = M14 10 2 by rw [hM16]; exact mu_ne _ _ (by first | decide | omega)).trans q10_2_M14
          have q10_4_M16 : id (M16 10 4 = M 10 4) := (show M16 10 4 = M14 10 4 by rw [hM16]; exact mu_ne _ _ (by first | decide | omega)).trans q10_4_M14
          have q10_6_M16 : id (M16 10 6 = M 10 6) := (show M16 10 6 = M14 10 6 by rw [hM16]; exact mu_ne _ _ (by first | decide | omega)).trans q10_6_M14
          have q20_5_M16 : id (M16 20 5 = M 20 5) := (show M16 20 5 = M14 20 5 by rw [hM16]; exact mu_ne _ _ (by first | decide | omega)).trans q20_5_M14
          have q19_2_M16 : id (M16 19 2 = M 19 2) := (show M16 19 2 = M14 19 2 by rw [hM16]; exact mu_ne _ _ (by first | decide | omega)).trans q19_2_M14
          have q19_4_M16 : id (M16 19 4 = M 19 4) := (show M16 19 4 = M14 19 4 by rw [hM16]; exact mu_ne _ _ (by first | decide | omega)).trans q19_4_M14
          have q19_6_M16 : id (M16 19 6 = M 19 6) := (show M16 19 6 = M14 19 6 by rw [hM16]; exact mu_ne _ _ (by first | decide | omega)).trans q19_6_M14
          have q29_0_M16 : id (M16 29 0 = M 29 0) := (show M16 29 0 = M14 29 0 by rw [hM16]; exact mu_ne _ _ (by first | decide | omega)).trans q29_0_M14
          have q29_1_M16 : id (M16 29 1 = M 29 1) := (show M16 29 1 = M14 29 1 by rw [hM16]; exact mu_ne _ _ (by first | decide | omega)).trans q29_1_M14
          have q31_1_M16 : id (M16 31 1 = M 31 1) := (show M16 31 1 = M14 31 1 by rw [hM16]; exact mu_ne _ _ (by first | decide | omega)).trans q31_1_M14
          have xM16_1_6 : M16 1 6 = v10 + 1 := by rw [hM16]; exact mu_at _ _ _ _
          refine g_aload_n (pc' := 81) 0 dX9_addWine_80 rfl rfl ?_
          refine g_getR (pc' := 84) dX9_addWine_81 rfl f_X9_12 rfl rfl ?_
          refine g_getI (pc' := 87) dX9_addWine_84 rfl f_X9_247 rfl rfl (fun v17 ev17 rv17 => ?_)
          have bv17 : 0 ≤ v17 ∧ v17 ≤ 6 := by rw [ev17]; exact iM16.2.1.1.2.2
          have yv17 : v17 = v10 + 1 := ev17.trans xM16_1_6
          refine g_iconst (pc' := 88) dX9_addWine_87 rfl ?_
          refine g_isub (pc' := 89) dX9_addWine_88 rfl ?_
          refine g_ireturn dX9_addWine_89 ?_
          exact ⟨iM16, fM16, q2_5_M16, q1_2_M16, q1_4_M16, q11_5_M16, q10_2_M16, q10_4_M16, q10_6_M16, q20_5_M16, q19_2_M16, q19_4_M16, q19_6_M16, q29_0_M16, q29_1_M16, q31_1_M16, by omega⟩
        · refine g_bipush (pc' := 46) (v := (-5)) dX9_addWine_44 rfl (by decide) ?_
          refine g_ireturn dX9_addWine_46 ?_
          exact ⟨hi, Fr.rf, rfl, rfl, rfl, rfl, rfl, rfl, rfl, rfl, rfl, rfl, rfl, rfl, rfl, rfl, by omega⟩
      · replace q7 := q7.resolve_left (fun h => absurd (c9.symm.trans h.1) (by decide))
        refine g_iconst (pc' := 31) dX9_addWine_30 rfl ?_
        refine g_ireturn dX9_addWine_31 ?_
        exact ⟨hi, Fr.rf, rfl, rfl, rfl, rfl, rfl, rfl, rfl, rfl, rfl, rfl, rfl, rfl, rfl, rfl, by omega⟩
set_option maxHeartbeats 4000000 in
set_option maxRecDepth 100000 in
theorem c_X9_wine (X : Cx) (M : Mm) (hi : IC M) (a : Int) (ha : inI a) (b : Int) (hb : inI b) (c : Int) (hc : inI c) : Con X 4 yX9_wine cX9_wine 4 (some .int) [vr X 0, vi a, vi b, vi c] M (Qi (fun r M1 => IC M1 ∧ Fr (fun c => c ≤ 96) M M1 ∧ M1 2 5 = M 2 5 ∧ M1 1 2 = M 1 2 ∧ M1 1 4 = M 1 4 ∧ M1 11 5 = M 11 5 ∧ M1 10 2 = M 10 2 ∧ M1 10 4 = M 10 4 ∧ M1 10 6 = M 10 6 ∧ M1 20 5 = M 20 5 ∧ M1 19 2 = M 19 2 ∧ M1 19 4 = M 19 4 ∧ M1 19 6 = M 19 6 ∧ M1 29 0 = M 29 0 ∧ M1 29 1 = M 29 1 ∧ M1 31 1 = M 31 1 ∧ (((a < 0 ∨ 100 < a ∨ b < 0 ∨ 99 < b ∨ c < 0 ∨ 20 < c) → r = -1 ∧ M1 1 6 = M 1 6) ∧ (0 ≤ a → a ≤ 100 → 0 ≤ b → b ≤ 99 → 0 ≤ c → c ≤ 20 → 6 ≤ M 1 6 → r = -5 ∧ M1 1 6 = M 1 6) ∧ (0 ≤ a → a ≤ 100 → 0 ≤ b → b ≤ 99 → 0 ≤ c → c ≤ 20 → M 1 6 < 6 → r = M 1 6 ∧ M1 1 6 = M 1 6 + 1)))) := by
  refine Con.ofG rfl (Nat.le_of_ble_eq_true rfl) ?_
  show G X 4 RX9 cX9_wine 4 (some .int) (Qi (fun r M1 => IC M1 ∧ Fr (fun c => c ≤ 96) M M1 ∧ M1 2 5 = M 2 5 ∧ M1 1 2 = M 1 2 ∧ M1 1 4 = M 1 4 ∧ M1 11 5 = M 11 5 ∧ M1 10 2 = M 10 2 ∧ M1 10 4 = M 10 4 ∧ M1 10 6 = M 10 6 ∧ M1 20 5 = M 20 5 ∧ M1 19 2 = M 19 2 ∧ M1 19 4 = M 19 4 ∧ M1 19 6 = M 19 6 ∧ M1 29 0 = M 29 0 ∧ M1 29 1 = M 29 1 ∧ M1 31 1 = M 31 1 ∧ (((a < 0 ∨ 100 < a ∨ b < 0 ∨ 99 < b ∨ c < 0 ∨ 20 < c) → r = -1 ∧ M1 1 6 = M 1 6) ∧ (0 ≤ a → a ≤ 100 → 0 ≤ b → b ≤ 99 → 0 ≤ c → c ≤ 20 → 6 ≤ M 1 6 → r = -5 ∧ M1 1 6 = M 1 6) ∧ (0 ≤ a → a ≤ 100 → 0 ≤ b → b ≤ 99 → 0 ≤ c → c ≤ 20 → M 1 6 < 6 → r = M 1 6 ∧ M1 1 6 = M 1 6 + 1)))) 0 [(0, vr X 0), (1, vi a), (2, vi b), (3, vi c)] [] M
  have hi5 := (hi.1 2 isT_2).2.1
  have hi4 := (hi.1 2 isT_2).1
  have h12 := hi.2.1.1.1
  have h14 := hi.2.1.1.2.1
  have h16 := hi.2.1.1.2.2
  refine g_aload_n (pc' := 1) 0 dX9_wine_0 rfl rfl ?_
  refine g_aload_n (pc' := 2) 0 dX9_wine_1 rfl rfl ?_
  refine g_iload_n (pc' := 3) 1 dX9_wine_2 rfl rfl ?_
  refine g_iload_n (pc' := 4) 2 dX9_wine_3 rfl rfl ?_
  refine g_iload_n (pc' := 5) 3 dX9_wine_4 rfl rfl ?_
  refine g_callVi (pc' := 8) (As := [vi a, vi b, vi c]) (b := 0) (S := [vr X 0]) dX9_wine_5 rfl m_X9_244 w_X9_addWine (c_X9_addWine X M hi a ha b hb c hc) rfl ⟨_, _, _, rfl, rfl, rfl⟩ (by decide) (by decide) rfl (Nat.le_of_ble_eq_true rfl) (fun z2 M3 q1 => ?_)
  obtain ⟨iM3, fM30, eM3_2_5, eM3_1_2, eM3_1_4, eM3_11_5, eM3_10_2, eM3_10_4, eM3_10_6, eM3_20_5, eM3_19_2, eM3_19_4, eM3_19_6, eM3_29_0, eM3_29_1, eM3_31_1, pM3⟩ := q1
  have fM3 : Fr (fun c => c ≤ 96) M M3 := Fr.tr Fr.rf fM30 fi_18
  have q2_5_M3 : id (M3 2 5 = M 2 5) := eM3_2_5
  have q1_2_M3 : id (M3 1 2 = M 1 2) := eM3_1_2
  have q1_4_M3 : id (M3 1 4 = M 1 4) := eM3_1_4
  have q11_5_M3 : id (M3 11 5 = M 11 5) := eM3_11_5
  have q10_2_M3 : id (M3 10 2 = M 10 2) := eM3_10_2
  have q10_4_M3 : id (M3 10 4 = M 10 4) := eM3_10_4
  have q10_6_M3 : id (M3 10 6 = M 10 6) := eM3_10_6
  have q20_5_M3 : id (M3 20 5 = M 20 5) := eM3_20_5
  have q19_2_M3 : id (M3 19 2 = M 19 2) := eM3_19_2
  have q19_4_M3 : id (M3 19 4 = M 19 4) := eM3_19_4
  have q19_6_M3 : id (M3 19 6 = M 19 6) := eM3_19_6
  have q29_0_M3 : id (M3 29 0 = M 29 0) := eM3_29_0
  have q29_1_M3 : id (M3 29 1 = M 29 1) := eM3_29_1
  have q31_1_M3 : id (M3 31 1 = M 31 1) := eM3_31_1
  clear eM3_2_5 eM3_1_2 eM3_1_4 eM3_11_5 eM3_10_2 eM3_10_4 eM3_10_6 eM3_20_5 eM3_19_2 eM3_19_4 eM3_19_6 eM3_29_0 eM3_29_1 eM3_31_1
  refine g_callVi (pc' := 11) (As := [vi z2]) (b := 0) (S := []) dX9_wine_8 rfl m_X9_79 w_X9_answered (c_X9_answered X M3 iM3 z2 ⟨by omega, by omega⟩) rfl ⟨_, _, _, rfl, rfl, rfl⟩ (by decide) (by decide) rfl (Nat.le_of_ble_eq_true rfl) (fun z5 M6 q4 => ?_)
  obtain ⟨iM6, fM60, eM6_2_5, eM6_1_2, eM6_1_4, eM6_1_6, eM6_11_5, eM6_10_2, eM6_10_4, eM6_10_6, eM6_20_5, eM6_19_2, eM6_19_4, eM6_19_6, eM6_29_0, eM6_29_1, eM6_31_1, pM6⟩ := q4
  have fM6 : Fr (fun c => c ≤ 96) M M6 := Fr.tr fM3 fM60 fi_10
  have q2_5_M6 : id (M6 2 5 = M 2 5) := eM6_2_5.trans q2_5_M3
  have q1_2_M6 : id (M6 1 2 = M 1 2) := eM6_1_2.trans q1_2_M3
  have q1_4_M6 : id (M6 1 4 = M 1 4) := eM6_1_4.trans q1_4_M3
  have q11_5_M6 : id (M6 11 5 = M 11 5) := eM6_11_5.trans q11_5_M3
  have q10_2_M6 : id (M6 10 2 = M 10 2) := eM6_10_2.trans q10_2_M3
  have q10_4_M6 : id (M6 10 4 = M 10 4) := eM6_10_4.trans q10_4_M3
  have q10_6_M6 : id (M6 10 6 = M 10 6) := eM6_10_6.trans q10_6_M3
  have q20_5_M6 : id (M6 20 5 = M 20 5) := eM6_20_5.trans q20_5_M3
  have q19_2_M6 : id (M6 19 2 = M 19 2) := eM6_19_2.trans q19_2_M3
  have q19_4_M6 : id (M6 19 4 = M 19 4) := eM6_19_4.trans q19_4_M3
  have q19_6_M6 : id (M6 19 6 = M 19 6) := eM6_19_6.trans q19_6_M3
  have q29_0_M6 : id (M6 29 0 = M 29 0) := eM6_29_0.trans q29_0_M3
  have q29_1_M6 : id (M6 29 1 = M 29 1) := eM6_29_1.trans q29_1_M3
  have q31_1_M6 : id (M6 31 1 = M 31 1) := eM6_31_1.trans q31_1_M3
  have wM6_1_6 : M6 1 6 = M3 1 6 := eM6_1_6
  clear eM6_2_5 eM6_1_2 eM6_1_4 eM6_11_5 eM6_10_2 eM6_10_4 eM6_10_6 eM6_20_5 eM6_19_2 eM6_19_4 eM6_19_6 eM6_29_0 eM6_29_1 eM6_31_1
  refine g_ireturn dX9_wine_11 ?_
  exact ⟨iM6, fM6, q2_5_M6, q1_2_M6, q1_4_M6, q11_5_M6, q10_2_M6, q10_4_M6, q10_6_M6, q20_5_M6, q19_2_M6, q19_4_M6, q19_6_M6, q29_0_M6, q29_1_M6, q31_1_M6, by omega⟩
set_option maxHeartbeats 4000000 in
set_option maxRecDepth 100000 in
theorem l_X9_removeWine_22 (X : Cx) (M : Mm) (hi : IC M) (a : Int) (ha : inI a) : ∀ (kk : Nat) (i : Int) (M1 : Mm) (ic1 : IC M1) (fr1 : Fr (fun c => c = 1 ∨ c = 9) M M1) (q2_5 : id (M1 2 5 = M 2 5)) (q1_2 : id (M1 1 2 = M 1 2)) (q1_4 : id (M1 1 4 = M 1 4)) (q11_5 : id (M1 11 5 = M 11 5)) (q10_2 : id (M1 10 2 = M 10 2)) (q10_4 : id (M1 10 4 = M 10 4)) (q10_6 : id (M1 10 6 = M 10 6)) (q20_5 : id (M1 20 5 = M 20 5)) (q19_2 : id (M1 19 2 = M 19 2)) (q19_4 : id (M1 19 4 = M 19 4)) (q19_6 : id (M1 19 6 = M 19 6)) (q29_0 : id (M1 29 0 = M 29 0)) (q29_1 : id (M1 29 1 = M 29 1)) (q31_1 : id (M1 31 1 = M 31 1)) (q1_6 : (M1 1 6 = M 1 6)) (a0 : 0 ≤ a ∧ a < M 1 6) (h0 : 0 ≤ i) (h1 : i ≤ 18), (18 - i).toNat = kk → G X 3 RX9 cX9_removeWine 3 (some .int) (Qi (fun r M1 => IC M1 ∧ Fr (fun c => c = 1 ∨ c = 9) M M1 ∧ M1 2 5 = M 2 5 ∧ M1 1 2 = M 1 2 ∧ M1 1 4 = M 1 4 ∧ M1 11 5 = M 11 5 ∧ M1 10 2 = M 10 2 ∧ M1 10 4 = M 10 4 ∧ M1 10 6 = M 10 6 ∧ M1 20 5 = M 20 5 ∧ M1 19 2 = M 19 2 ∧ M1 19 4 = M 19 4 ∧ M1 19 6 = M 19 6 ∧ M1 29 0 = M 29 0 ∧ M1 29 1 = M 29 1 ∧ M1 31 1 = M 31 1 ∧ (((a < 0 ∨ M 1 6 ≤ a) → r = -2 ∧ M1 1 6 = M 1 6) ∧ (0 ≤ a → a < M 1 6 → r = M 1 6 - 1 ∧ M1 1 6 = M 1 6 - 1)))) 22 [(2, vi i), (0, vr X 0), (1, vi a)] [] M1 := by
  intro kk
  induction kk using Nat.strongRecOn with
  | ind kk ih =>
    intro i M1 ic1 fr1 q2_5 q1_2 q1_4 q11_5 q10_2 q10_4 q10_6 q20_5 q19_2 q19_4 q19_6 q29_0 q29_1 q31_1 q1_6 a0 h0 h1 hmes
    refine g_iload_n (pc' := 23) 0 dX9_removeWine_22 rfl rfl ?_
    refine g_iconst (pc' := 24) dX9_removeWine_23 rfl ?_
    refine g_iadd (pc' := 25) dX9_removeWine_24 rfl ?_
    refine g_iconst (pc' := 26) dX9_removeWine_25 rfl ?_
    refine g_aload_n (pc' := 27) 1 dX9_removeWine_26 rfl rfl ?_
    refine g_getR (pc' := 30) dX9_removeWine_27 rfl f_X9_12 rfl rfl ?_
    refine g_getI (pc' := 33) dX9_removeWine_30 rfl f_X9_247 rfl rfl (fun v1 ev1 rv1 => ?_)
    have bv1 : 0 ≤ v1 ∧ v1 ≤ 6 := by rw [ev1]; exact ic1.2.1.1.2.2
    have av1 : v1 = M 1 6 := ev1.trans q1_6
    refine g_imul (pc' := 34) dX9_removeWine_33 rfl ?_
    refine g_ic_ge (pc' := 37) (tgt := 63) ⟨by omega, by omega⟩ ⟨by omega, by omega⟩ dX9_removeWine_34 rfl rfl (fun c2 => ?_) (fun c2 => ?_)
    · refine g_aload_n (pc' := 64) 1 dX9_removeWine_63 rfl rfl ?_
      refine g_getR (pc' := 67) dX9_removeWine_64 rfl f_X9_12 rfl rfl ?_
      refine g_dup (pc' := 68) dX9_removeWine_67 rfl rfl ?_
      refine g_getI (pc' := 71) dX9_removeWine_68 rfl f_X9_247 rfl rfl (fun v3 ev3 rv3 => ?_)
      obtain rfl : v1 = v3 := ev1.trans ev3.symm
      refine g_iconst (pc' := 72) dX9_removeWine_71 rfl ?_
      refine g_isub (pc' := 73) dX9_removeWine_72 rfl ?_
      refine g_putI (pc' := 76) dX9_removeWine_73 rfl p_X9_247 rfl rfl ⟨by omega, by omega⟩ (fun M4 hM4 => ?_)
      have iM4 : IC M4 := IC.wr ic1 hM4 (by unfold okw isT; first | decide | omega)
      have fM4 : Fr (fun c => c = 1 ∨ c = 9) M M4 := Fr.wr fr1 hM4 (by first | decide | omega | (dsimp only; omega))
      have q2_5_M4 : id (M4 2 5 = M 2 5) := (show M4 2 5 = M1 2 5 by rw [hM4]; exact mu_ne _ _ (by first | decide | omega)).trans q2_5
      have q1_2_M4 : id (M4 1 2 = M 1 2) := (show M4 1 2 = M1 1 2 by rw [hM4]; exact mu_ne _ _ (by first | decide | omega)).trans q1_2
      have q1_4_M4 : id (M4 1 4 = M 1 4) := (show M4 1 4 = M1 1 4 by rw [hM4]; exact mu_ne _ _ (by first | decide | omega)).trans q1_4
      have q11_5_M4 : id (M4 11 5 = M 11 5) := (show M4 11 5 = M1 11 5 by rw [hM4]; exact mu_ne _ _ (by first | decide | omega)).trans q11_5
      have q10_2_M4 : id (M4 10 2 = M 10 2) := (show M4 10 2 = M1 10 2 by rw [hM4]; exact mu_ne _ _ (by first | decide | omega)).trans q10_2
      have q10_4_M4 : id (M4 10 4 = M 10 4) := (show M4 10 4 = M1 10 4 by rw [hM4]; exact mu_ne _ _ (by first | decide | omega)).trans q10_4
      have q10_6_M4 : id (M4 10 6 = M 10 6) := (show M4 10 6 = M1 10 6 by rw [hM4]; exact mu_ne _ _ (by first | decide | omega)).trans q10_6
      have q20_5_M4 : id (M4 20 5 = M 20 5) := (show M4 20 5 = M1 20 5 by rw [hM4]; exact mu_ne _ _ (by first | decide | omega)).trans q20_5
      have q19_2_M4 : id (M4 19 2 = M 19 2) := (show M4 19 2 = M1 19 2 by rw [hM4]; exact mu_ne _ _ (by first | decide | omega)).trans q19_2
      have q19_4_M4 : id (M4 19 4 = M 19 4) := (show M4 19 4 = M1 19 4 by rw [hM4]; exact mu_ne _ _ (by first | decide | omega)).trans q19_4
      have q19_6_M4 : id (M4 19 6 = M 19 6) := (show M4 19 6 = M1 19 6 by rw [hM4]; exact mu_ne _ _ (by first | decide | omega)).trans q19_6
      have q29_0_M4 : id (M4 29 0 = M 29 0) := (show M4 29 0 = M1 29 0 by rw [hM4]; exact mu_ne _ _ (by first | decide | omega)).trans q29_0
      have q29_1_M4 : id (M4 29 1 = M 29 1) := (show M4 29 1 = M1 29 1 by rw [hM4]; exact mu_ne _ _ (by first | decide | omega)).trans q29_1
      have q31_1_M4 : id (M4 31 1 = M 31 1) := (show M4 31 1 = M1 31 1 by rw [hM4]; exact mu_ne _ _ (by first | decide | omega)).trans q31_1
      have xM4_1_6 : M4 1 6 = v1 - 1 := by rw [hM4]; exact mu_at _ _ _ _
      refine g_aload_n (pc' := 77) 1 dX9_removeWine_76 rfl rfl ?_
      refine g_getR (pc' := 80) dX9_removeWine_77 rfl f_X9_12 rfl rfl ?_
      refine g_getI (pc' := 83) dX9_removeWine_80 rfl f_X9_247 rfl rfl (fun v5 ev5 rv5 => ?_)
      have bv5 : 0 ≤ v5 ∧ v5 ≤ 6 := by rw [ev5]; exact iM4.2.1.1.2.2
      have yv5 : v5 = v1 - 1 := ev5.trans xM4_1_6
      refine g_ireturn dX9_removeWine_83 ?_
      exact ⟨iM4, fM4, q2_5_M4, q1_2_M4, q1_4_M4, q11_5_M4, q10_2_M4, q10_4_M4, q10_6_M4, q20_5_M4, q19_2_M4, q19_4_M4, q19_6_M4, q29_0_M4, q29_1_M4, q31_1_M4, by omega⟩
    · refine g_aload_n (pc' := 38) 1 dX9_removeWine_37 rfl rfl ?_
      refine g_getR (pc' := 41) dX9_removeWine_38 rfl f_X9_12 rfl rfl ?_
      refine g_getR (pc' := 44) dX9_removeWine_41 rfl f_X9_250 rfl rfl ?_
      refine g_iload_n (pc' := 45) 0 dX9_removeWine_44 rfl rfl ?_
      refine g_aload_n (pc' := 46) 1 dX9_removeWine_45 rfl rfl ?_
      refine g_getR (pc' := 49) dX9_removeWine_46 rfl f_X9_12 rfl rfl ?_
      refine g_getR (pc' := 52) dX9_removeWine_49 rfl f_X9_250 rfl rfl ?_
      refine g_iload_n (pc' := 53) 0 dX9_removeWine_52 rfl rfl ?_
      refine g_iconst (pc' := 54) dX9_removeWine_53 rfl ?_
      refine g_iadd (pc' := 55) dX9_removeWine_54 rfl ?_
      refine g_iald (pc' := 56) dX9_removeWine_55 rfl rfl (by omega) (by omega) (fun v6 ev6 rv6 => ?_)
      refine g_iast (pc' := 57) dX9_removeWine_56 rfl rfl (by omega) (by omega) rv6 (fun M7 hM7 => ?_)
      have iM7 : IC M7 := IC.wr ic1 hM7 (by unfold okw isT; first | decide | omega)
      have fM7 : Fr (fun c => c = 1 ∨ c = 9) M M7 := Fr.wr fr1 hM7 (by first | decide | omega | (dsimp only; omega))
      have q2_5_M7 : id (M7 2 5 = M 2 5) := (show M7 2 5 = M1 2 5 by rw [hM7]; exact mu_ne _ _ (by first | decide | omega)).trans q2_5
      have q1_2_M7 : id (M7 1 2 = M 1 2) := (show M7 1 2 = M1 1 2 by rw [hM7]; exact mu_ne _ _ (by first | decide | omega)).trans q1_2
      have q1_4_M7 : id (M7 1 4 = M 1 4) := (show M7 1 4 = M1 1 4 by rw [hM7]; exact mu_ne _ _ (by first | decide | omega)).trans q1_4
      have q11_5_M7 : id (M7 11 5 = M 11 5) := (show M7 11 5 = M1 11 5 by rw [hM7]; exact mu_ne _ _ (by first | decide | omega)).trans q11_5
      have q10_2_M7 : id (M7 10 2 = M 10 2) := (show M7 10 2 = M1 10 2 by rw [hM7]; exact mu_ne _ _ (by first | decide | omega)).trans q10_2
      have q10_4_M7 : id (M7 10 4 = M 10 4) := (show M7 10 4 = M1 10 4 by rw [hM7]; exact mu_ne _ _ (by first | decide | omega)).trans q10_4
      have q10_6_M7 : id (M7 10 6 = M 10 6) := (show M7 10 6 = M1 10 6 by rw [hM7]; exact mu_ne _ _ (by first | decide | omega)).trans q10_6
      have q20_5_M7 : id (M7 20 5 = M 20 5) := (show M7 20 5 = M1 20 5 by rw [hM7]; exact mu_ne _ _ (by first | decide | omega)).trans q20_5
      have q19_2_M7 : id (M7 19 2 = M 19 2) := (show M7 19 2 = M1 19 2 by rw [hM7]; exact mu_ne _ _ (by first | decide | omega)).trans q19_2
      have q19_4_M7 : id (M7 19 4 = M 19 4) := (show M7 19 4 = M1 19 4 by rw [hM7]; exact mu_ne _ _ (by first | decide | omega)).trans q19_4
      have q19_6_M7 : id (M7 19 6 = M 19 6) := (show M7 19 6 = M1 19 6 by rw [hM7]; exact mu_ne _ _ (by first | decide | omega)).trans q19_6
      have q29_0_M7 : id (M7 29 0 = M 29 0) := (show M7 29 0 = M1 29 0 by rw [hM7]; exact mu_ne _ _ (by first | decide | omega)).trans q29_0
      have q29_1_M7 : id (M7 29 1 = M 29 1) := (show M7 29 1 = M1 29 1 by rw [hM7]; exact mu_ne _ _ (by first | decide | omega)).trans q29_1
      have q31_1_M7 : id (M7 31 1 = M 31 1) := (show M7 31 1 = M1 31 1 by rw [hM7]; exact mu_ne _ _ (by first | decide | omega)).trans q31_1
      have q1_6_M7 : (M7 1 6 = M 1 6) := (show M7 1 6 = M1 1 6 by rw [hM7]; exact mu_ne _ _ (by first | decide | omega)).trans q1_6
      have wM7_1_6 : M7 1 6 = M1 1 6 := by rw [hM7]; exact mu_ne _ _ (by first | decide | omega)
      refine g_iinc (pc' := 60) (L' := [(2, vi (i + 1)), (0, vr X 0), (1, vi a)]) 0 dX9_removeWine_57 rfl rfl (by decide) rfl ?_
      refine g_goto (tgt := 22) dX9_removeWine_60 rfl ?_
      refine g_sub [0, 1, 2] rfl ?_
      exact ih _ (by omega) (i + 1) M7 iM7 fM7 q2_5_M7 q1_2_M7 q1_4_M7 q11_5_M7 q10_2_M7 q10_4_M7 q10_6_M7 q20_5_M7 q19_2_M7 q19_4_M7 q19_6_M7 q29_0_M7 q29_1_M7 q31_1_M7 q1_6_M7 (by omega) (by omega) (by omega) rfl
set_option maxHeartbeats 4000000 in
set_option maxRecDepth 100000 in
theorem c_X9_removeWine (X : Cx) (M : Mm) (hi : IC M) (a : Int) (ha : inI a) : Con X 3 yX9_removeWine cX9_removeWine 3 (some .int) [vr X 0, vi a] M (Qi (fun r M1 => IC M1 ∧ Fr (fun c => c = 1 ∨ c = 9) M M1 ∧ M1 2 5 = M 2 5 ∧ M1 1 2 = M 1 2 ∧ M1 1 4 = M 1 4 ∧ M1 11 5 = M 11 5 ∧ M1 10 2 = M 10 2 ∧ M1 10 4 = M 10 4 ∧ M1 10 6 = M 10 6 ∧ M1 20 5 = M 20 5 ∧ M1 19 2 = M 19 2 ∧ M1 19 4 = M 19 4 ∧ M1 19 6 = M 19 6 ∧ M1 29 0 = M 29 0 ∧ M1 29 1 = M 29 1 ∧ M1 31 1 = M 31 1 ∧ (((a < 0 ∨ M 1 6 ≤ a) → r = -2 ∧ M1 1 6 = M 1 6) ∧ (0 ≤ a → a < M 1 6 → r = M 1 6 - 1 ∧ M1 1 6 = M 1 6 - 1)))) := by
  refine Con.ofG rfl (Nat.le_of_ble_eq_true rfl) ?_
  show G X 3 RX9 cX9_removeWine 3 (some .int) (Qi (fun r M1 => IC M1 ∧ Fr (fun c => c = 1 ∨ c = 9) M M1 ∧ M1 2 5 = M 2 5 ∧ M1 1 2 = M 1 2 ∧ M1 1 4 = M 1 4 ∧ M1 11 5 = M 11 5 ∧ M1 10 2 = M 10 2 ∧ M1 10 4 = M 10 4 ∧ M1 10 6 = M 10 6 ∧ M1 20 5 = M 20 5 ∧ M1 19 2 = M 19 2 ∧ M1 19 4 = M 19 4 ∧ M1 19 6 = M 19 6 ∧ M1 29 0 = M 29 0 ∧ M1 29 1 = M 29 1 ∧ M1 31 1 = M 31 1 ∧ (((a < 0 ∨ M 1 6 ≤ a) → r = -2 ∧ M1 1 6 = M 1 6) ∧ (0 ≤ a → a < M 1 6 → r = M 1 6 - 1 ∧ M1 1 6 = M 1 6 - 1)))) 0 [(0, vr X 0), (1, vi a)] [] M
  refine g_iload_n (pc' := 1) 1 dX9_removeWine_0 rfl rfl ?_
  refine g_if_lt (pc' := 4) (tgt := 15) ha dX9_removeWine_1 rfl rfl (fun c1 => ?_) (fun c1 => ?_)
  · refine g_bipush (pc' := 17) (v := (-2)) dX9_removeWine_15 rfl (by decide) ?_
    refine g_ireturn dX9_removeWine_17 ?_
    exact ⟨hi, Fr.rf, rfl, rfl, rfl, rfl, rfl, rfl, rfl, rfl, rfl, rfl, rfl, rfl, rfl, rfl, by omega⟩
  · refine g_iload_n (pc' := 5) 1 dX9_removeWine_4 rfl rfl ?_
    refine g_aload_n (pc' := 6) 0 dX9_removeWine_5 rfl rfl ?_
    refine g_getR (pc' := 9) dX9_removeWine_6 rfl f_X9_12 rfl rfl ?_
    refine g_getI (pc' := 12) dX9_removeWine_9 rfl f_X9_247 rfl rfl (fun v2 ev2 rv2 => ?_)
    have bv2 : 0 ≤ v2 ∧ v2 ≤ 6 := by rw [ev2]; exact hi.2.1.1.2.2
    have av2 : v2 = M 1 6 := ev2
    refine g_ic_lt (pc' := 15) (tgt := 18) ha rv2 dX9_removeWine_12 rfl rfl (fun c3 => ?_) (fun c3 => ?_)
    · refine g_iconst (pc' := 19) dX9_removeWine_18 rfl ?_
      refine g_iload_n (pc' := 20) 1 dX9_removeWine_19 rfl rfl ?_
      refine g_imul (pc' := 21) dX9_removeWine_20 rfl ?_
      obtain ⟨x4, ex4⟩ : ∃ z : Int, z = 3 * a := ⟨_, rfl⟩
      rw [← ex4]
      refine g_istore_n (pc' := 22) (i := 2) (L' := [(2, vi x4), (0, vr X 0), (1, vi a)]) dX9_removeWine_21 rfl rfl (by decide) rfl ?_
      refine g_sub [0, 1, 2] rfl ?_
      exact l_X9_removeWine_22 X M hi a ha _ x4 M hi Fr.rf rfl rfl rfl rfl rfl rfl rfl rfl rfl rfl rfl rfl rfl rfl rfl (by omega) (by omega) (by omega) rfl
    · refine g_bipush (pc' := 17) (v := (-2)) dX9_removeWine_15 rfl (by decide) ?_
      refine g_ireturn dX9_removeWine_17 ?_
      exact ⟨hi, Fr.rf, rfl, rfl, rfl, rfl, rfl, rfl, rfl, rfl, rfl, rfl, rfl, rfl, rfl, rfl, by omega⟩
set_option maxHeartbeats 4000000 in
set_option maxRecDepth 100000 in
theorem c_X9_drink (X : Cx) (M : Mm) (hi : IC M) (a : Int) (ha : inI a) : Con X 4 yX9_drink cX9_drink 2 (some .int) [vr X 0, vi a] M (Qi (fun r M1 => IC M1 ∧ Fr (fun c => c ≤ 96) M M1 ∧ M1 2 5 = M 2 5 ∧ M1 1 2 = M 1 2 ∧ M1 1 4 = M 1 4 ∧ M1 11 5 = M 11 5 ∧ M1 10 2 = M 10 2 ∧ M1 10 4 = M 10 4 ∧ M1 10 6 = M 10 6 ∧ M1 20 5 = M 20 5 ∧ M1 19 2 = M 19 2 ∧ M1 19 4 = M 19 4 ∧ M1 19 6 = M 19 6 ∧ M1 29 0 = M 29 0 ∧ M1 29 1 = M 29 1 ∧ M1 31 1 = M 31 1 ∧ (((a < 0 ∨ M 1 6 ≤ a) → r = -2 ∧ M1 1 6 = M 1 6) ∧ (0 ≤ a → a < M 1 6 → r = M 1 6 - 1 ∧ M1 1 6 = M 1 6 - 1)))) := by
  refine Con.ofG rfl (Nat.le_of_ble_eq_true rfl) ?_
  show G X 4 RX9 cX9_drink 2 (some .int) (Qi (fun r M1 => IC M1 ∧ Fr (fun c => c ≤ 96) M M1 ∧ M1 2 5 = M 2 5 ∧ M1 1 2 = M 1 2 ∧ M1 1 4 = M 1 4 ∧ M1 11 5 = M 11 5 ∧ M1 10 2 = M 10 2 ∧ M1 10 4 = M 10 4 ∧ M1 10 6 = M 10 6 ∧ M1 20 5 = M 20 5 ∧ M1 19 2 = M 19 2 ∧ M1 19 4 = M 19 4 ∧ M1 19 6 = M 19 6 ∧ M1 29 0 = M 29 0 ∧ M1 29 1 = M 29 1 ∧ M1 31 1 = M 31 1 ∧ (((a < 0 ∨ M 1 6 ≤ a) → r = -2 ∧ M1 1 6 = M 1 6) ∧ (0 ≤ a → a < M 1 6 → r = M 1 6 - 1 ∧ M1 1 6 = M 1 6 - 1)))) 0 [(0, vr X 0), (1, vi a)] [] M
  have hi5 := (hi.1 2 isT_2).2.1
  have hi4 := (hi.1 2 isT_2).1
  have h12 := hi.2.1.1.1
  have h14 := hi.2.1.1.2.1
  have h16 := hi.2.1.1.2.2
  refine g_aload_n (pc' := 1) 0 dX9_drink_0 rfl rfl ?_
  refine g_aload_n (pc' := 2) 0 dX9_drink_1 rfl rfl ?_
  refine g_iload_n (pc' := 3) 1 dX9_drink_2 rfl rfl ?_
  refine g_callVi (pc' := 6) (As := [vi a]) (b := 0) (S := [vr X 0]) dX9_drink_3 rfl m_X9_253 w_X9_removeWine (c_X9_removeWine X M hi a ha) rfl ⟨_, _, _, rfl, rfl, rfl⟩ (by decide) (by decide) rfl (Nat.le_of_ble_eq_true rfl) (fun z2 M3 q1 => ?_)
  obtain ⟨iM3, fM30, eM3_2_5, eM3_1_2, eM3_1_4, eM3_11_5, eM3_10_2, eM3_10_4, eM3_10_6, eM3_20_5, eM3_19_2, eM3_19_4, eM3_19_6, eM3_29_0, eM3_29_1, eM3_31_1, pM3⟩ := q1
  have fM3 : Fr (fun c => c ≤ 96) M M3 := Fr.tr Fr.rf fM30 fi_18
  have q2_5_M3 : id (M3 2 5 = M 2 5) := eM3_2_5
  have q1_2_M3 : id (M3 1 2 = M 1 2) := eM3_1_2
  have q1_4_M3 : id (M3 1 4 = M 1 4) := eM3_1_4
  have q11_5_M3 : id (M3 11 5 = M 11 5) := eM3_11_5
  have q10_2_M3 : id (M3 10 2 = M 10 2) := eM3_10_2
  have q10_4_M3 : id (M3 10 4 = M 10 4) := eM3_10_4
  have q10_6_M3 : id (M3 10 6 = M 10 6) := eM3_10_6
  have q20_5_M3 : id (M3 20 5 = M 20 5) := eM3_20_5
  have q19_2_M3 : id (M3 19 2 = M 19 2) := eM3_19_2
  have q19_4_M3 : id (M3 19 4 = M 19 4) := eM3_19_4
  have q19_6_M3 : id (M3 19 6 = M 19 6) := eM3_19_6
  have q29_0_M3 : id (M3 29 0 = M 29 0) := eM3_29_0
  have q29_1_M3 : id (M3 29 1 = M 29 1) := eM3_29_1
  have q31_1_M3 : id (M3 31 1 = M 31 1) := eM3_31_1
  clear eM3_2_5 eM3_1_2 eM3_1_4 eM3_11_5 eM3_10_2 eM3_10_4 eM3_10_6 eM3_20_5 eM3_19_2 eM3_19_4 eM3_19_6 eM3_29_0 eM3_29_1 eM3_31_1
  refine g_callVi (pc' := 9) (As := [vi z2]) (b := 0) (S := []) dX9_drink_6 rfl m_X9_79 w_X9_answered (c_X9_answered X M3 iM3 z2 ⟨by omega, by omega⟩) rfl ⟨_, _, _, rfl, rfl, rfl⟩ (by decide) (by decide) rfl (Nat.le_of_ble_eq_true rfl) (fun z5 M6 q4 => ?_)
  obtain ⟨iM6, fM60, eM6_2_5, eM6_1_2, eM6_1_4, eM6_1_6, eM6_11_5, eM6_10_2, eM6_10_4, eM6_10_6, eM6_20_5, eM6_19_2, eM6_19_4, eM6_19_6, eM6_29_0, eM6_29_1, eM6_31_1, pM6⟩ := q4
  have fM6 : Fr (fun c => c ≤ 96) M M6 := Fr.tr fM3 fM60 fi_10
  have q2_5_M6 : id (M6 2 5 = M 2 5) := eM6_2_5.trans q2_5_M3
  have q1_2_M6 : id (M6 1 2 = M 1 2) := eM6_1_2.trans q1_2_M3
  have q1_4_M6 : id (M6 1 4 = M 1 4) := eM6_1_4.trans q1_4_M3
  have q11_5_M6 : id (M6 11 5 = M 11 5) := eM6_11_5.trans q11_5_M3
  have q10_2_M6 : id (M6 10 2 = M 10 2) := eM6_10_2.trans q10_2_M3
  have q10_4_M6 : id (M6 10 4 = M 10 4) := eM6_10_4.trans q10_4_M3
  have q10_6_M6 : id (M6 10 6 = M 10 6) := eM6_10_6.trans q10_6_M3
  have q20_5_M6 : id (M6 20 5 = M 20 5) := eM6_20_5.trans q20_5_M3
  have q19_2_M6 : id (M6 19 2 = M 19 2) := eM6_19_2.trans q19_2_M3
  have q19_4_M6 : id (M6 19 4 = M 19 4) := eM6_19_4.trans q19_4_M3
  have q19_6_M6 : id (M6 19 6 = M 19 6) := eM6_19_6.trans q19_6_M3
  have q29_0_M6 : id (M6 29 0 = M 29 0) := eM6_29_0.trans q29_0_M3
  have q29_1_M6 : id (M6 29 1 = M 29 1) := eM6_29_1.trans q29_1_M3
  have q31_1_M6 : id (M6 31 1 = M 31 1) := eM6_31_1.trans q31_1_M3
  have wM6_1_6 : M6 1 6 = M3 1 6 := eM6_1_6
  clear eM6_2_5 eM6_1_2 eM6_1_4 eM6_11_5 eM6_10_2 eM6_10_4 eM6_10_6 eM6_20_5 eM6_19_2 eM6_19_4 eM6_19_6 eM6_29_0 eM6_29_1 eM6_31_1
  refine g_ireturn dX9_drink_9 ?_
  exact ⟨iM6, fM6, q2_5_M6, q1_2_M6, q1_4_M6, q11_5_M6, q10_2_M6, q10_4_M6, q10_6_M6, q20_5_M6, q19_2_M6, q19_4_M6, q19_6_M6, q29_0_M6, q29_1_M6, q31_1_M6, by omega⟩
set_option maxHeartbeats 4000000 in
set_option maxRecDepth 100000 in
theorem c_X9_mix (X : Cx) (M : Mm) (hi : IC M) (a : Int) (ha : inI a) (b : Int) (hb : inI b) (c : Int) (hc : inI c) : Con X 12 yX9_mix cX9_mix 5 (some .int) [vr X 0, vi a, vi b, vi c] M (Qi (fun r M1 => IC M1 ∧ Fr (fun c => c ≤ 96) M M1 ∧ M1 2 5 = M 2 5 ∧ M1 1 2 = M 1 2 ∧ M1 1 4 = M 1 4 ∧ M1 1 6 = M 1 6 ∧ M1 11 5 = M 11 5 ∧ M1 10 2 = M 10 2 ∧ M1 10 4 = M 10 4 ∧ M1 10 6 = M 10 6 ∧ M1 20 5 = M 20 5 ∧ M1 19 2 = M 19 2 ∧ M1 19 4 = M 19 4 ∧ M1 19 6 = M 19 6 ∧ M1 29 0 = M 29 0 ∧ M1 29 1 = M 29 1 ∧ M1 31 1 = M 31 1 ∧ (inI r))) := by
  refine Con.ofG rfl (Nat.le_of_ble_eq_true rfl) ?_
  show G X 12 RX9 cX9_mix 5 (some .int) (Qi (fun r M1 => IC M1 ∧ Fr (fun c => c ≤ 96) M M1 ∧ M1 2 5 = M 2 5 ∧ M1 1 2 = M 1 2 ∧ M1 1 4 = M 1 4 ∧ M1 1 6 = M 1 6 ∧ M1 11 5 = M 11 5 ∧ M1 10 2 = M 10 2 ∧ M1 10 4 = M 10 4 ∧ M1 10 6 = M 10 6 ∧ M1 20 5 = M 20 5 ∧ M1 19 2 = M 19 2 ∧ M1 19 4 = M 19 4 ∧ M1 19 6 = M 19 6 ∧ M1 29 0 = M 29 0 ∧ M1 29 1 = M 29 1 ∧ M1 31 1 = M 31 1 ∧ (inI r))) 0 [(0, vr X 0), (1, vi a), (2, vi b), (3, vi c)] [] M
  refine g_iload_n (pc' := 1) 1 dX9_mix_0 rfl rfl ?_
  refine g_iconst (pc' := 2) dX9_mix_1 rfl ?_
  refine g_bipush (pc' := 4) (v := 20) dX9_mix_2 rfl (by decide) ?_
  refine g_callSip (pc' := 7) (As := [vi a, vi 1, vi 20]) (S := []) dX9_mix_4 rfl m_X9_191 w_X9_isWithin (c_X9_isWithin X M a ha 1 (by decide) 20 (by decide)) rfl (by decide) (by decide) rfl (Nat.le_of_ble_eq_true rfl) (fun z2 q1 => ?_)
  refine g_if_eq (pc' := 10) (tgt := 20) ⟨by omega, by omega⟩ dX9_mix_7 rfl rfl (fun c3 => ?_) (fun c3 => ?_)
  · replace q1 := q1.resolve_left (fun h => absurd (c3.symm.trans h.1) (by decide))
    refine g_iconst (pc' := 21) dX9_mix_20 rfl ?_
    refine g_ireturn dX9_mix_21 ?_
    exact ⟨hi, Fr.rf, rfl, rfl, rfl, rfl, rfl, rfl, rfl, rfl, rfl, rfl, rfl, rfl, rfl, rfl, rfl, by omega⟩
  · replace q1 := q1.resolve_right (fun h => c3 h.1)
    refine g_iload_n (pc' := 11) 2 dX9_mix_10 rfl rfl ?_
    refine g_iconst (pc' := 12) dX9_mix_11 rfl ?_
    refine g_bipush (pc' := 14) (v := 100) dX9_mix_12 rfl (by decide) ?_
    refine g_callSip (pc' := 17) (As := [vi b, vi 0, vi 100]) (S := []) dX9_mix_14 rfl m_X9_191 w_X9_isWithin (c_X9_isWithin X M b hb 0 (by decide) 100 (by decide)) rfl (by decide) (by decide) rfl (Nat.le_of_ble_eq_true rfl) (fun z5 q4 => ?_)
    refine g_if_ne (pc' := 20) (tgt := 22) ⟨by omega, by omega⟩ dX9_mix_17 rfl rfl (fun c6 => ?_) (fun c6 => ?_)
    · replace q4 := q4.resolve_right (fun h => c6 h.1)
      refine g_iload_n (pc' := 23) 3 dX9_mix_22 rfl rfl ?_
      refine g_if_lt (pc' := 26) (tgt := 37) hc dX9_mix_23 rfl rfl (fun c7 => ?_) (fun c7 => ?_)
      · refine g_iconst (pc' := 38) dX9_mix_37 rfl ?_
        refine g_ireturn dX9_mix_38 ?_
        exact ⟨hi, Fr.rf, rfl, rfl, rfl, rfl, rfl, rfl, rfl, rfl, rfl, rfl, rfl, rfl, rfl, rfl, rfl, by omega⟩
      · refine g_iload_n (pc' := 27) 3 dX9_mix_26 rfl rfl ?_
        refine g_aload_n (pc' := 28) 0 dX9_mix_27 rfl rfl ?_
        refine g_getR (pc' := 31) dX9_mix_28 rfl f_X9_12 rfl rfl ?_
        refine g_getI (pc' := 34) dX9_mix_31 rfl f_X9_247 rfl rfl (fun v8 ev8 rv8 => ?_)
        have bv8 : 0 ≤ v8 ∧ v8 ≤ 6 := by rw [ev8]; exact hi.2.1.1.2.2
        have av8 : v8 = M 1 6 := ev8
        refine g_ic_le (pc' := 37) (tgt := 39) hc rv8 dX9_mix_34 rfl rfl (fun c9 => ?_) (fun c9 => ?_)
        · refine g_aload_n (pc' := 40) 0 dX9_mix_39 rfl rfl ?_
          refine g_getR (pc' := 43) dX9_mix_40 rfl f_X9_53 rfl rfl ?_
          refine g_aload_n (pc' := 44) 0 dX9_mix_43 rfl rfl ?_
          refine g_getR (pc' := 47) dX9_mix_44 rfl f_X9_12 rfl rfl ?_
          refine g_iload_n (pc' := 48) 1 dX9_mix_47 rfl rfl ?_
          refine g_iload_n (pc' := 49) 2 dX9_mix_48 rfl rfl ?_
          refine g_callVi (pc' := 52) (As := [vr X 1, vi a, vi b]) (b := 84) (S := []) dX9_mix_49 rfl m_X9_256 w_X1_leastPrice (c_X1_leastPrice X M hi a ha b hb ⟨by omega, by omega⟩) rfl ⟨_, _, _, rfl, rfl, rfl⟩ (by decide) (by decide) rfl (Nat.le_of_ble_eq_true rfl) (fun z11 M12 q10 => ?_)
          obtain ⟨iM12, fM120, pM12⟩ := q10
          have fM12 : Fr (fun c => c ≤ 96) M M12 := Fr.tr Fr.rf fM120 fi_19
          have q2_5_M12 : id (M12 2 5 = M 2 5) := (congrFun (fM120 2 (by first | decide | omega | (dsimp only; omega))) 5)
          have q1_2_M12 : id (M12 1 2 = M 1 2) := (congrFun (fM120 1 (by first | decide | omega | (dsimp only; omega))) 2)
          have q1_4_M12 : id (M12 1 4 = M 1 4) := (congrFun (fM120 1 (by first | decide | omega | (dsimp only; omega))) 4)
          have q1_6_M12 : id (M12 1 6 = M 1 6) := (congrFun (fM120 1 (by first | decide | omega | (dsimp only; omega))) 6)
          have q11_5_M12 : id (M12 11 5 = M 11 5) := (congrFun (fM120 11 (by first | decide | omega | (dsimp only; omega))) 5)
          have q10_2_M12 : id (M12 10 2 = M 10 2) := (congrFun (fM120 10 (by first | decide | omega | (dsimp only; omega))) 2)
          have q10_4_M12 : id (M12 10 4 = M 10 4) := (congrFun (fM120 10 (by first | decide | omega | (dsimp only; omega))) 4)
          have q10_6_M12 : id (M12 10 6 = M 10 6) := (congrFun (fM120 10 (by first | decide | omega | (dsimp only; omega))) 6)
          have q20_5_M12 : id (M12 20 5 = M 20 5) := (congrFun (fM120 20 (by first | decide | omega | (dsimp only; omega))) 5)
          have q19_2_M12 : id (M12 19 2 = M 19 2) := (congrFun (fM120 19 (by first | decide | omega | (dsimp only; omega))) 2)
          have q19_4_M12 : id (M12 19 4 = M 19 4) := (congrFun (fM120 19 (by first | decide | omega | (dsimp only; omega))) 4)
          have q19_6_M12 : id (M12 19 6 = M 19 6) := (congrFun (fM120 19 (by first | decide | omega | (dsimp only; omega))) 6)
          have q29_0_M12 : id (M12 29 0 = M 29 0) := (congrFun (fM120 29 (by first | decide | omega | (dsimp only; omega))) 0)
          have q29_1_M12 : id (M12 29 1 = M 29 1) := (congrFun (fM120 29 (by first | decide | omega | (dsimp only; omega))) 1)
          have q31_1_M12 : id (M12 31 1 = M 31 1) := (congrFun (fM120 31 (by first | decide | omega | (dsimp only; omega))) 1)
          refine g_istore (pc' := 54) (L' := [(4, vi z11), (0, vr X 0), (1, vi a), (2, vi b), (3, vi c)]) dX9_mix_52 rfl (by decide) rfl ?_
          refine g_iload_n (pc' := 55) 4 dX9_mix_54 rfl rfl ?_
          refine g_if_eq (pc' := 58) (tgt := 64) hc dX9_mix_55 rfl rfl (fun c13 => ?_) (fun c13 => ?_)
          · refine g_iload (pc' := 66) 0 dX9_mix_64 rfl rfl ?_
            refine g_goto (tgt := 80) dX9_mix_66 rfl ?_
            refine g_ireturn dX9_mix_80 ?_
            exact ⟨iM12, fM12, q2_5_M12, q1_2_M12, q1_4_M12, q1_6_M12, q11_5_M12, q10_2_M12, q10_4_M12, q10_6_M12, q20_5_M12, q19_2_M12, q19_4_M12, q19_6_M12, q29_0_M12, q29_1_M12, q31_1_M12, by omega⟩
          · refine g_iload (pc' := 60) 0 dX9_mix_58 rfl rfl ?_
            refine g_iconst (pc' := 61) dX9_mix_60 rfl ?_
            refine g_ic_ne (pc' := 64) (tgt := 69) ⟨by omega, by omega⟩ (by decide) dX9_mix_61 rfl rfl (fun c14 => ?_) (fun c14 => ?_)
            · refine g_aload_n (pc' := 70) 1 dX9_mix_69 rfl rfl ?_
              refine g_getR (pc' := 73) dX9_mix_70 rfl f_X9_53 rfl rfl ?_
              refine g_getR (pc' := 76) dX9_mix_73 rfl f_X9_260 rfl rfl ?_
              refine g_iload_n (pc' := 77) 4 dX9_mix_76 rfl rfl ?_
              refine g_iconst (pc' := 78) dX9_mix_77 rfl ?_
              refine g_isub (pc' := 79) dX9_mix_78 rfl ?_
              refine g_iald (pc' := 80) dX9_mix_79 rfl rfl (by omega) (by omega) (fun v15 ev15 rv15 => ?_)
              refine g_ireturn dX9_mix_80 ?_
              exact ⟨iM12, fM12, q2_5_M12, q1_2_M12, q1_4_M12, q1_6_M12, q11_5_M12, q10_2_M12, q10_4_M12, q10_6_M12, q20_5_M12, q19_2_M12, q19_4_M12, q19_6_M12, q29_0_M12, q29_1_M12, q31_1_M12, by omega⟩
            · refine g_iload (pc' := 66) 0 dX9_mix_64 rfl rfl ?_
              refine g_goto (tgt := 80) dX9_mix_66 rfl ?_
              refine g_ireturn dX9_mix_80 ?_
              exact ⟨iM12, fM12, q2_5_M12, q1_2_M12, q1_4_M12, q1_6_M12, q11_5_M12, q10_2_M12, q10_4_M12, q10_6_M12, q20_5_M12, q19_2_M12, q19_4_M12, q19_6_M12, q29_0_M12, q29_1_M12, q31_1_M12, by omega⟩
        · refine g_iconst (pc' := 38) dX9_mix_37 rfl ?_
          refine g_ireturn dX9_mix_38 ?_
          exact ⟨hi, Fr.rf, rfl, rfl, rfl, rfl, rfl, rfl, rfl, rfl, rfl, rfl, rfl, rfl, rfl, rfl, rfl, by omega⟩
    · replace q4 := q4.resolve_left (fun h => absurd (c6.symm.trans h.1) (by decide))
      refine g_iconst (pc' := 21) dX9_mix_20 rfl ?_
      refine g_ireturn dX9_mix_21 ?_
      exact ⟨hi, Fr.rf, rfl, rfl, rfl, rfl, rfl, rfl, rfl, rfl, rfl, rfl, rfl, rfl, rfl, rfl, rfl, by omega⟩
set_option maxHeartbeats 4000000 in
set_option maxRecDepth 100000 in
theorem l_X9_passNight_70 (X : Cx) (M : Mm) (hi : IC M) (a : Int) (ha : inI a) (b : Int) (hb : inI b) : ∀ (kk : Nat) (g : Int) (mv : Int) (sd : Int) (i : Int) (M1 : Mm) (ic1 : IC M1) (fr1 : Fr (fun c => 91 ≤ c ∧ c ≤ 95) M M1) (q2_5 : id (M1 2 5 = M 2 5)) (q1_2 : id (M1 1 2 = M 1 2)) (q1_4 : id (M1 1 4 = M 1 4)) (q1_6 : id (M1 1 6 = M 1 6)) (q11_5 : id (M1 11 5 = M 11 5)) (q10_2 : id (M1 10 2 = M 10 2)) (q10_4 : id (M1 10 4 = M 10 4)) (q10_6 : id (M1 10 6 = M 10 6)) (q20_5 : id (M1 20 5 = M 20 5)) (q19_2 : id (M1 19 2 = M 19 2)) (q19_4 : id (M1 19 4 = M 19 4)) (q19_6 : id (M1 19 6 = M 19 6)) (q29_0 : id (M1 29 0 = M 29 0)) (q29_1 : id (M1 29 1 = M 29 1)) (q31_1 : id (M1 31 1 = M 31 1)) (hg : 1 ≤ g ∧ g ≤ 6) (hm : 0 ≤ mv ∧ mv ≤ i) (hsd : 0 ≤ sd ∧ sd ≤ 1000003) (h0 : 0 ≤ i) (h1 : i ≤ 20) (hb2 : 1 ≤ b ∧ b ≤ 20) (hsp : 1 ≤ M 1 2), (20 - i).toNat = kk → G X 4 RX9 cX9_passNight 10 (some .int) (Qi (fun r M1 => IC M1 ∧ Fr (fun c => 91 ≤ c ∧ c ≤ 95) M M1 ∧ M1 2 5 = M 2 5 ∧ M1 1 2 = M 1 2 ∧ M1 1 4 = M 1 4 ∧ M1 1 6 = M 1 6 ∧ M1 11 5 = M 11 5 ∧ M1 10 2 = M 10 2 ∧ M1 10 4 = M 10 4 ∧ M1 10 6 = M 10 6 ∧ M1 20 5 = M 20 5 ∧ M1 19 2 = M 19 2 ∧ M1 19 4 = M 19 4 ∧ M1 19 6 = M 19 6 ∧ M1 29 0 = M 29 0 ∧ M1 29 1 = M 29 1 ∧ M1 31 1 = M 31 1 ∧ (inI r))) 70 [(3, vi g), (4, vi mv), (5, vi sd), (6, vi i), (0, vr X 0), (2, vi b)] [] M1 := by
  intro kk
  induction kk using Nat.strongRecOn with
  | ind kk ih =>
    intro g mv sd i M1 ic1 fr1 q2_5 q1_2 q1_4 q1_6 q11_5 q10_2 q10_4 q10_6 q20_5 q19_2 q19_4 q19_6 q29_0 q29_1 q31_1 hg hm hsd h0 h1 hb2 hsp hmes
    refine g_iload (pc' := 72) 3 dX9_passNight_70 rfl rfl ?_
    refine g_iload_n (pc' := 73) 5 dX9_passNight_72 rfl rfl ?_
    refine g_ic_ge (pc' := 76) (tgt := 154) ⟨by omega, by omega⟩ hb dX9_passNight_73 rfl rfl (fun c1 => ?_) (fun c1 => ?_)
    · refine g_iload (pc' := 156) 1 dX9_passNight_154 rfl rfl ?_
      refine g_ireturn dX9_passNight_156 ?_
      exact ⟨ic1, fr1, q2_5, q1_2, q1_4, q1_6, q11_5, q10_2, q10_4, q10_6, q20_5, q19_2, q19_4, q19_6, q29_0, q29_1, q31_1, by omega⟩
    · refine g_iload (pc' := 78) 2 dX9_passNight_76 rfl rfl ?_
      refine g_callSip (pc' := 81) (As := [vi sd]) (S := []) dX9_passNight_78 rfl m_X9_277 w_X9_nextDraw (c_X9_nextDraw X M1 sd ⟨by omega, by omega⟩ ⟨by omega, by omega⟩) rfl (by decide) (by decide) rfl (Nat.le_of_ble_eq_true rfl) (fun z3 q2 => ?_)
      refine g_istore (pc' := 83) (L' := [(5, vi z3), (3, vi g), (4, vi mv), (6, vi i), (0, vr X 0), (2, vi b)]) dX9_passNight_81 rfl (by decide) rfl ?_
      refine g_iload (pc' := 85) 0 dX9_passNight_83 rfl rfl ?_
      refine g_iload_n (pc' := 86) 1 dX9_passNight_85 rfl rfl ?_
      refine g_irem (pc' := 87) ⟨by omega, by omega⟩ ⟨by omega, by omega⟩ (by omega) dX9_passNight_86 rfl ?_
      refine g_nrmI (fun n4 rn4 en4 => ?_)
      have bn4 : (-2147483648 ≤ z3.tmod g ∧ z3.tmod g ≤ 2147483647) → n4 = z3.tmod g := fun h => en4.trans (bm32 h)
      refine g_istore (pc' := 89) (L' := [(7, vi n4), (5, vi z3), (3, vi g), (4, vi mv), (6, vi i), (0, vr X 0), (2, vi b)]) dX9_passNight_87 rfl (by decide) rfl ?_
      refine g_iload (pc' := 91) 1 dX9_passNight_89 rfl rfl ?_
      refine g_callSip (pc' := 94) (As := [vi z3]) (S := []) dX9_passNight_91 rfl m_X9_277 w_X9_nextDraw (c_X9_nextDraw X M1 z3 ⟨by omega, by omega⟩ ⟨by omega, by omega⟩) rfl (by decide) (by decide) rfl (Nat.le_of_ble_eq_true rfl) (fun z6 q5 => ?_)
      refine g_istore (pc' := 96) (L' := [(5, vi z6), (7, vi n4), (3, vi g), (4, vi mv), (6, vi i), (0, vr X 0), (2, vi b)]) dX9_passNight_94 rfl (by decide) rfl ?_
      refine g_iload (pc' := 98) 0 dX9_passNight_96 rfl rfl ?_
      refine g_iload_n (pc' := 99) 2 dX9_passNight_98 rfl rfl ?_
      refine g_irem (pc' := 100) ⟨by omega, by omega⟩ ⟨by omega, by omega⟩ (by omega) dX9_passNight_99 rfl ?_
      refine g_nrmI (fun n7 rn7 en7 => ?_)
      have bn7 : (-2147483648 ≤ z6.tmod g ∧ z6.tmod g ≤ 2147483647) → n7 = z6.tmod g := fun h => en7.trans (bm32 h)
      refine g_istore (pc' := 102) (L' := [(8, vi n7), (5, vi z6), (7, vi n4), (3, vi g), (4, vi mv), (6, vi i), (0, vr X 0), (2, vi b)]) dX9_passNight_100 rfl (by decide) rfl ?_
      refine g_iload (pc' := 104) 1 dX9_passNight_102 rfl rfl ?_
      refine g_callSip (pc' := 107) (As := [vi z6]) (S := []) dX9_passNight_104 rfl m_X9_277 w_X9_nextDraw (c_X9_nextDraw X M1 z6 ⟨by omega, by omega⟩ ⟨by omega, by omega⟩) rfl (by decide) (by decide) rfl (Nat.le_of_ble_eq_true rfl) (fun z9 q8 => ?_)
      refine g_istore (pc' := 109) (L' := [(5, vi z9), (8, vi n7), (7, vi n4), (3, vi g), (4, vi mv), (6, vi i), (0, vr X 0), (2, vi b)]) dX9_passNight_107 rfl (by decide) rfl ?_
      refine g_aload_n (pc' := 110) 6 dX9_passNight_109 rfl rfl ?_
      refine g_getR (pc' := 113) dX9_passNight_110 rfl f_X9_12 rfl rfl ?_
      refine g_getR (pc' := 116) dX9_passNight_113 rfl f_X9_210 rfl rfl ?_
      refine g_iload (pc' := 118) 0 dX9_passNight_116 rfl rfl ?_
      refine g_aload_n (pc' := 119) 6 dX9_passNight_118 rfl rfl ?_
      refine g_getR (pc' := 122) dX9_passNight_119 rfl f_X9_12 rfl rfl ?_
      refine g_getI (pc' := 125) dX9_passNight_122 rfl f_X9_207 rfl rfl (fun v10 ev10 rv10 => ?_)
      have bv10 : 0 ≤ v10 ∧ v10 ≤ 3 := by rw [ev10]; exact ic1.2.1.1.1
      have av10 : v10 = M 1 2 := ev10.trans q1_2
      refine g_irem (pc' := 126) ⟨by omega, by omega⟩ rv10 (by omega) dX9_passNight_125 rfl ?_
      have htm := tmr (x := z9) (k := v10) (by omega) (by omega)
      refine g_iald (pc' := 127) dX9_passNight_126 rfl rfl (by omega) (by omega) (fun v11 ev11 rv11 => ?_)
      refine g_istore (pc' := 129) (L' := [(9, vi v11), (5, vi z9), (8, vi n7), (7, vi n4), (3, vi g), (4, vi mv), (6, vi i), (0, vr X 0), (2, vi b)]) dX9_passNight_127 rfl (by decide) rfl ?_
      refine g_aload_n (pc' := 130) 7 dX9_passNight_129 rfl rfl ?_
      refine g_getR (pc' := 133) dX9_passNight_130 rfl f_X9_60 rfl rfl ?_
      refine g_iload (pc' := 135) 3 dX9_passNight_133 rfl rfl ?_
      refine g_iload (pc' := 137) 2 dX9_passNight_135 rfl rfl ?_
      refine g_iload (pc' := 139) 0 dX9_passNight_137 rfl rfl ?_
      refine g_callVi (pc' := 142) (As := [vi n4, vi n7, vi v11]) (b := 91) (S := []) dX9_passNight_139 rfl m_X9_128 w_X7_carry (c_X7_carry X M1 91 isT_91 (ic1.1 _ isT_91) n4 rn4 n7 rn7 v11 rv11) rfl ⟨_, _, _, rfl, rfl, rfl⟩ (by decide) (by decide) rfl (Nat.le_of_ble_eq_true rfl) (fun z13 M14 q12 => ?_)
      obtain ⟨kM14, fM140, gM140, pM14⟩ := q12
      have iM14 : IC M14 := IC.ofT ic1 isT_91 fM140 kM14
      have fM14 : Fr (fun c => 91 ≤ c ∧ c ≤ 95) M M14 := Fr.tr fr1 fM140 (fun c z => by unfold inT at z; first | omega | (dsimp only; omega))
      have q2_5_M14 : id (M14 2 5 = M 2 5) := (congrFun (fM140 2 (by unfold inT; first | decide | omega)) 5).trans q2_5
      have q1_2_M14 : id (M14 1 2 = M 1 2) := (congrFun (fM140 1 (by unfold inT; first | decide | omega)) 2).trans q1_2
      have q1_4_M14 : id (M14 1 4 = M 1 4) := (congrFun (fM140 1 (by unfold inT; first | decide | omega)) 4).trans q1_4
      have q1_6_M14 : id (M14 1 6 = M 1 6) := (congrFun (fM140 1 (by unfold inT; first | decide | omega)) 6).trans q1_6
      have q11_5_M14 : id (M14 11 5 = M 11 5) := (congrFun (fM140 11 (by unfold inT; first | decide | omega)) 5).trans q11_5
      have q10_2_M14 : id (M14 10 2 = M 10 2) := (congrFun (fM140 10 (by unfold inT; first | decide | omega)) 2).trans q10_2
      have q10_4_M14 : id (M14 10 4 = M 10 4) := (congrFun (fM140 10 (by unfold inT; first | decide | omega)) 4).trans q10_4
      have q10_6_M14 : id (M14 10 6 = M 10 6) := (congrFun (fM140 10 (by unfold inT; first | decide | omega)) 6).trans q10_6
      have q20_5_M14 : id (M14 20 5 = M 20 5) := (congrFun (fM140 20 (by unfold inT; first | decide | omega)) 5).trans q20_5
      have q19_2_M14 : id (M14 19 2 = M 19 2) := (congrFun (fM140 19 (by unfold inT; first | decide | omega)) 2).trans q19_2
      have q19_4_M14 : id (M14 19 4 = M 19 4) := (congrFun (fM140 19 (by unfold inT; first | decide | omega)) 4).trans q19_4
      have q19_6_M14 : id (M14 19 6 = M 19 6) := (congrFun (fM140 19 (by unfold inT; first | decide | omega)) 6).trans q19_6
      have q29_0_M14 : id (M14 29 0 = M 29 0) := (congrFun (fM140 29 (by unfold inT; first | decide | omega)) 0).trans q29_0
      have q29_1_M14 : id (M14 29 1 = M 29 1) := (congrFun (fM140 29 (by unfold inT; first | decide | omega)) 1).trans q29_1
      have q31_1_M14 : id (M14 31 1 = M 31 1) := (congrFun (fM140 31 (by unfold inT; first | decide | omega)) 1).trans q31_1
      refine g_if_ne (pc' := 145) (tgt := 148) ⟨by omega, by omega⟩ dX9_passNight_142 rfl rfl (fun c15 => ?_) (fun c15 => ?_)
      · refine g_iinc (pc' := 151) (L' := [(6, vi (i + 1)), (9, vi v11), (5, vi z9), (8, vi n7), (7, vi n4), (3, vi g), (4, vi mv), (0, vr X 0), (2, vi b)]) 6 dX9_passNight_148 rfl rfl (by decide) rfl ?_
        refine g_goto (tgt := 70) dX9_passNight_151 rfl ?_
        refine g_sub [5, 6, 2, 0, 7, 8] rfl ?_
        exact ih _ (by omega) g mv z9 (i + 1) M14 iM14 fM14 q2_5_M14 q1_2_M14 q1_4_M14 q1_6_M14 q11_5_M14 q10_2_M14 q10_4_M14 q10_6_M14 q20_5_M14 q19_2_M14 q19_4_M14 q19_6_M14 q29_0_M14 q29_1_M14 q31_1_M14 (by omega) (by omega) (by omega) (by omega) (by omega) (by omega) (by omega) rfl
      · refine g_iinc (pc' := 148) (L' := [(4, vi (mv + 1)), (9, vi v11), (5, vi z9), (8, vi n7), (7, vi n4), (3, vi g), (6, vi i), (0, vr X 0), (2, vi b)]) 5 dX9_passNight_145 rfl rfl (by decide) rfl ?_
        refine g_iinc (pc' := 151) (L' := [(6, vi (i + 1)), (4, vi (mv + 1)), (9, vi v11), (5, vi z9), (8, vi n7), (7, vi n4), (3, vi g), (0, vr X 0), (2, vi b)]) 6 dX9_passNight_148 rfl rfl (by decide) rfl ?_
        refine g_goto (tgt := 70) dX9_passNight_151 rfl ?_
        refine g_sub [6, 1, 3, 0, 7, 8] rfl ?_
        exact ih _ (by omega) g (mv + 1) z9 (i + 1) M14 iM14 fM14 q2_5_M14 q1_2_M14 q1_4_M14 q1_6_M14 q11_5_M14 q10_2_M14 q10_4_M14 q10_6_M14 q20_5_M14 q19_2_M14 q19_4_M14 q19_6_M14 q29_0_M14 q29_1_M14 q31_1_M14 (by omega) (by omega) (by omega) (by omega) (by omega) (by omega) (by omega) rfl
set_option maxHeartbeats 4000000 in
set_option maxRecDepth 100000 in
theorem c_X9_passNight (X : Cx) (M : Mm) (hi : IC M) (a : Int) (ha : inI a) (b : Int) (hb : inI b) : Con X 4 yX9_passNight cX9_passNight 10 (some .int) [vr X 0, vi a, vi b] M (Qi (fun r M1 => IC M1 ∧ Fr (fun c => 91 ≤ c ∧ c ≤ 95) M M1 ∧ M1 2 5 = M 2 5 ∧ M1 1 2 = M 1 2 ∧ M1 1 4 = M 1 4 ∧ M1 1 6 = M 1 6 ∧ M1 11 5 = M 11 5 ∧ M1 10 2 = M 10 2 ∧ M1 10 4 = M 10 4 ∧ M1 10 6 = M 10 6 ∧ M1 20 5 = M 20 5 ∧ M1 19 2 = M 19 2 ∧ M1 19 4 = M 19 4 ∧ M1 19 6 = M 19 6 ∧ M1 29 0 = M 29 0 ∧ M1 29 1 = M 29 1 ∧ M1 31 1 = M 31 1 ∧ (inI r))) := by
  refine Con.ofG rfl (Nat.le_of_ble_eq_true rfl) ?_
  show G X 4 RX9 cX9_passNight 10 (some .int) (Qi (fun r M1 => IC M1 ∧ Fr (fun c => 91 ≤ c ∧ c ≤ 95) M M1 ∧ M1 2 5 = M 2 5 ∧ M1 1 2 = M 1 2 ∧ M1 1 4 = M 1 4 ∧ M1 1 6 = M 1 6 ∧ M1 11 5 = M 11 5 ∧ M1 10 2 = M 10 2 ∧ M1 10 4 = M 10 4 ∧ M1 10 6 = M 10 6 ∧ M1 20 5 = M 20 5 ∧ M1 19 2 = M 19 2 ∧ M1 19 4 = M 19 4 ∧ M1 19 6 = M 19 6 ∧ M1 29 0 = M 29 0 ∧ M1 29 1 = M 29 1 ∧ M1 31 1 = M 31 1 ∧ (inI r))) 0 [(0, vr X 0), (1, vi a), (2, vi b)] [] M
  refine g_iload_n (pc' := 1) 1 dX9_passNight_0 rfl rfl ?_
  refine g_iconst (pc' := 2) dX9_passNight_1 rfl ?_
  refine g_ldcw (pc' := 5) (v := 1000000) dX9_passNight_2 rfl k_X9_269 ?_
  refine g_callSip (pc' := 8) (As := [vi a, vi 0, vi 1000000]) (S := []) dX9_passNight_5 rfl m_X9_191 w_X9_isWithin (c_X9_isWithin X M a ha 0 (by decide) 1000000 (by decide)) rfl (by decide) (by decide) rfl (Nat.le_of_ble_eq_true rfl) (fun z2 q1 => ?_)
  refine g_if_eq (pc' := 11) (tgt := 21) ⟨by omega, by omega⟩ dX9_passNight_8 rfl rfl (fun c3 => ?_) (fun c3 => ?_)
  · replace q1 := q1.resolve_left (fun h => absurd (c3.symm.trans h.1) (by decide))
    refine g_iconst (pc' := 22) dX9_passNight_21 rfl ?_
    refine g_ireturn dX9_passNight_22 ?_
    exact ⟨hi, Fr.rf, rfl, rfl, rfl, rfl, rfl, rfl, rfl, rfl, rfl, rfl, rfl, rfl, rfl, rfl, rfl, by omega⟩
  · replace q1 := q1.resolve_right (fun h => c3 h.1)
    refine g_iload_n (pc' := 12) 2 dX9_passNight_11 rfl rfl ?_
    refine g_iconst (pc' := 13) dX9_passNight_12 rfl ?_
    refine g_bipush (pc' := 15) (v := 20) dX9_passNight_13 rfl (by decide) ?_
    refine g_callSip (pc' := 18) (As := [vi b, vi 1, vi 20]) (S := []) dX9_passNight_15 rfl m_X9_191 w_X9_isWithin (c_X9_isWithin X M b hb 1 (by decide) 20 (by decide)) rfl (by decide) (by decide) rfl (Nat.le_of_ble_eq_true rfl) (fun z5 q4 => ?_)
    refine g_if_ne (pc' := 21) (tgt := 23) ⟨by omega, by omega⟩ dX9_passNight_18 rfl rfl (fun c6 => ?_) (fun c6 => ?_)
    · replace q4 := q4.resolve_right (fun h => c6 h.1)
      refine g_aload_n (pc' := 24) 0 dX9_passNight_23 rfl rfl ?_
      refine g_getR (pc' := 27) dX9_passNight_24 rfl f_X9_60 rfl rfl ?_
      refine g_aload_n (pc' := 28) 0 dX9_passNight_27 rfl rfl ?_
      refine g_getR (pc' := 31) dX9_passNight_28 rfl f_X9_12 rfl rfl ?_
      refine g_getR (pc' := 34) dX9_passNight_31 rfl f_X9_86 rfl rfl ?_
      refine g_callVv (pc' := 37) (As := [vr X 2]) (b := 91) (S := []) dX9_passNight_34 rfl m_X9_270 w_X7_copyFrom (c_X7_copyFrom X M 91 isT_91 (hi.1 _ isT_91) 2 isT_2 (hi.1 _ isT_2) (by decide) (isT.apart isT_91 isT_2 (by decide))) rfl ⟨_, _, _, rfl, rfl, rfl⟩ (by decide) (by decide) rfl (Nat.le_of_ble_eq_true rfl) (fun M8 q7 => ?_)
      obtain ⟨kM8, fM80, gM80⟩ := q7
      have iM8 : IC M8 := IC.ofT hi isT_91 fM80 kM8
      have fM8 : Fr (fun c => 91 ≤ c ∧ c ≤ 95) M M8 := Fr.tr Fr.rf fM80 (fun c z => by unfold inT at z; first | omega | (dsimp only; omega))
      have q2_5_M8 : id (M8 2 5 = M 2 5) := (congrFun (fM80 2 (by unfold inT; first | decide | omega)) 5)
      have q1_2_M8 : id (M8 1 2 = M 1 2) := (congrFun (fM80 1 (by unfold inT; first | decide | omega)) 2)
      have q1_4_M8 : id (M8 1 4 = M 1 4) := (congrFun (fM80 1 (by unfold inT; first | decide | omega)) 4)
      have q1_6_M8 : id (M8 1 6 = M 1 6) := (congrFun (fM80 1 (by unfold inT; first | decide | omega)) 6)
      have q11_5_M8 : id (M8 11 5 = M 11 5) := (congrFun (fM80 11 (by unfold inT; first | decide | omega)) 5)
      have q10_2_M8 : id (M8 10 2 = M 10 2) := (congrFun (fM80 10 (by unfold inT; first | decide | omega)) 2)
      have q10_4_M8 : id (M8 10 4 = M 10 4) := (congrFun (fM80 10 (by unfold inT; first | decide | omega)) 4)
      have q10_6_M8 : id (M8 10 6 = M 10 6) := (congrFun (fM80 10 (by unfold inT; first | decide | omega)) 6)
      have q20_5_M8 : id (M8 20 5 = M 20 5) := (congrFun (fM80 20 (by unfold inT; first | decide | omega)) 5)
      have q19_2_M8 : id (M8 19 2 = M 19 2) := (congrFun (fM80 19 (by unfold inT; first | decide | omega)) 2)
      have q19_4_M8 : id (M8 19 4 = M 19 4) := (congrFun (fM80 19 (by unfold inT; first | decide | omega)) 4)
      have q19_6_M8 : id (M8 19 6 = M 19 6) := (congrFun (fM80 19 (by unfold inT; first | decide | omega)) 6)
      have q29_0_M8 : id (M8 29 0 = M 29 0) := (congrFun (fM80 29 (by unfold inT; first | decide | omega)) 0)
      have q29_1_M8 : id (M8 29 1 = M 29 1) := (congrFun (fM80 29 (by unfold inT; first | decide | omega)) 1)
      have q31_1_M8 : id (M8 31 1 = M 31 1) := (congrFun (fM80 31 (by unfold inT; first | decide | omega)) 1)
      refine g_aload_n (pc' := 38) 0 dX9_passNight_37 rfl rfl ?_
      refine g_getR (pc' := 41) dX9_passNight_38 rfl f_X9_60 rfl rfl ?_
      refine g_getI (pc' := 44) dX9_passNight_41 rfl f_X9_274 rfl rfl (fun v9 ev9 rv9 => ?_)
      have bv9 : 0 ≤ v9 ∧ v9 ≤ 6 := by rw [ev9]; exact ⟨(iM8.1 91 isT_91).1, (iM8.1 91 isT_91).2.1⟩
      have yv9 : v9 = M 2 5 := ev9.trans gM80
      refine g_istore_n (pc' := 45) (i := 3) (L' := [(3, vi v9), (0, vr X 0), (1, vi a), (2, vi b)]) dX9_passNight_44 rfl rfl (by decide) rfl ?_
      refine g_iload_n (pc' := 46) 0 dX9_passNight_45 rfl rfl ?_
      refine g_if_le (pc' := 49) (tgt := 59) rv9 dX9_passNight_46 rfl rfl (fun c10 => ?_) (fun c10 => ?_)
      · refine g_iconst (pc' := 60) dX9_passNight_59 rfl ?_
        refine g_ireturn dX9_passNight_60 ?_
        exact ⟨iM8, fM8, q2_5_M8, q1_2_M8, q1_4_M8, q1_6_M8, q11_5_M8, q10_2_M8, q10_4_M8, q10_6_M8, q20_5_M8, q19_2_M8, q19_4_M8, q19_6_M8, q29_0_M8, q29_1_M8, q31_1_M8, by omega⟩
      · refine g_aload_n (pc' := 50) 1 dX9_passNight_49 rfl rfl ?_
        refine g_getR (pc' := 53) dX9_passNight_50 rfl f_X9_12 rfl rfl ?_
        refine g_getI (pc' := 56) dX9_passNight_53 rfl f_X9_207 rfl rfl (fun v11 ev11 rv11 => ?_)
        have bv11 : 0 ≤ v11 ∧ v11 ≤ 3 := by rw [ev11]; exact iM8.2.1.1.1
        have av11 : v11 = M 1 2 := ev11.trans q1_2_M8
        refine g_if_gt (pc' := 59) (tgt := 61) rv11 dX9_passNight_56 rfl rfl (fun c12 => ?_) (fun c12 => ?_)
        · refine g_iconst (pc' := 62) dX9_passNight_61 rfl ?_
          refine g_istore (pc' := 64) (L' := [(4, vi 0), (3, vi v9), (0, vr X 0), (1, vi a), (2, vi b)]) dX9_passNight_62 rfl (by decide) rfl ?_
          refine g_iload_n (pc' := 65) 3 dX9_passNight_64 rfl rfl ?_
          refine g_istore (pc' := 67) (L' := [(5, vi a), (4, vi 0), (3, vi v9), (0, vr X 0), (1, vi a), (2, vi b)]) dX9_passNight_65 rfl (by decide) rfl ?_
          refine g_iconst (pc' := 68) dX9_passNight_67 rfl ?_
          refine g_istore (pc' := 70) (L' := [(6, vi 0), (5, vi a), (4, vi 0), (3, vi v9), (0, vr X 0), (1, vi a), (2, vi b)]) dX9_passNight_68 rfl (by decide) rfl ?_
          refine g_sub [3, 2, 1, 0, 4, 6] rfl ?_
          exact l_X9_passNight_70 X M hi a ha b hb _ v9 0 a 0 M8 iM8 fM8 q2_5_M8 q1_2_M8 q1_4_M8 q1_6_M8 q11_5_M8 q10_2_M8 q10_4_M8 q10_6_M8 q20_5_M8 q19_2_M8 q19_4_M8 q19_6_M8 q29_0_M8 q29_1_M8 q31_1_M8 (by omega) (by omega) (by omega) (by omega) (by omega) (by omega) (by omega) rfl
        · refine g_iconst (pc' := 60) dX9_passNight_59 rfl ?_
          refine g_ireturn dX9_passNight_60 ?_
          exact ⟨iM8, fM8, q2_5_M8, q1_2_M8, q1_4_M8, q1_6_M8, q11_5_M8, q10_2_M8, q10_4_M8, q10_6_M8, q20_5_M8, q19_2_M8, q19_4_M8, q19_6_M8, q29_0_M8, q29_1_M8, q31_1_M8, by omega⟩
    · replace q4 := q4.resolve_left (fun h => absurd (c6.symm.trans h.1) (by decide))
      refine g_iconst (pc' := 22) dX9_passNight_21 rfl ?_
      refine g_ireturn dX9_passNight_22 ?_
      exact ⟨hi, Fr.rf, rfl, rfl, rfl, rfl, rfl, rfl, rfl, rfl, rfl, rfl, rfl, rfl, rfl, rfl, rfl, by omega⟩
set_option maxHeartbeats 4000000 in
set_option maxRecDepth 100000 in
theorem c_X9_night (X : Cx) (M : Mm) (hi : IC M) (a : Int) (ha : inI a) (b : Int) (hb : inI b) : Con X 5 yX9_night cX9_night 3 (some .int) [vr X 0, vi a, vi b] M (Qi (fun r M1 => IC M1 ∧ Fr (fun c => c ≤ 96) M M1 ∧ M1 2 5 = M 2 5 ∧ M1 1 2 = M 1 2 ∧ M1 1 4 = M 1 4 ∧ M1 1 6 = M 1 6 ∧ M1 11 5 = M 11 5 ∧ M1 10 2 = M 10 2 ∧ M1 10 4 = M 10 4 ∧ M1 10 6 = M 10 6 ∧ M1 20 5 = M 20 5 ∧ M1 19 2 = M 19 2 ∧ M1 19 4 = M 19 4 ∧ M1 19 6 = M 19 6 ∧ M1 29 0 = M 29 0 ∧ M1 29 1 = M 29 1 ∧ M1 31 1 = M 31 1 ∧ (inI r))) := by
  refine Con.ofG rfl (Nat.le_of_ble_eq_true rfl) ?_
  show G X 5 RX9 cX9_night 3 (some .int) (Qi (fun r M1 => IC M1 ∧ Fr (fun c => c ≤ 96) M M1 ∧ M1 2 5 = M 2 5 ∧ M1 1 2 = M 1 2 ∧ M1 1 4 = M 1 4 ∧ M1 1 6 = M 1 6 ∧ M1 11 5 = M 11 5 ∧ M1 10 2 = M 10 2 ∧ M1 10 4 = M 10 4 ∧ M1 10 6 = M 10 6 ∧ M1 20 5 = M 20 5 ∧ M1 19 2 = M 19 2 ∧ M1 19 4 = M 19 4 ∧ M1 19 6 = M 19 6 ∧ M1 29 0 = M 29 0 ∧ M1 29 1 = M 29 1 ∧ M1 31 1 = M 31 1 ∧ (inI r))) 0 [(0, vr X 0), (1, vi a), (2, vi b)] [] M
  refine g_aload_n (pc' := 1) 0 dX9_night_0 rfl rfl ?_
  refine g_aload_n (pc' := 2) 0 dX9_night_1 rfl rfl ?_
  refine g_iload_n (pc' := 3) 1 dX9_night_2 rfl rfl ?_
  refine g_iload_n (pc' := 4) 2 dX9_night_3 rfl rfl ?_
  refine g_callVi (pc' := 7) (As := [vi a, vi b]) (b := 0) (S := [vr X 0]) dX9_night_4 rfl m_X9_266 w_X9_passNight (c_X9_passNight X M hi a ha b hb) rfl ⟨_, _, _, rfl, rfl, rfl⟩ (by decide) (by decide) rfl (Nat.le_of_ble_eq_true rfl) (fun z2 M3 q1 => ?_)
  obtain ⟨iM3, fM30, eM3_2_5, eM3_1_2, eM3_1_4, eM3_1_6, eM3_11_5, eM3_10_2, eM3_10_4, eM3_10_6, eM3_20_5, eM3_19_2, eM3_19_4, eM3_19_6, eM3_29_0, eM3_29_1, eM3_31_1, pM3⟩ := q1
  have fM3 : Fr (fun c => c ≤ 96) M M3 := Fr.tr Fr.rf fM30 fi_20
  have q2_5_M3 : id (M3 2 5 = M 2 5) := eM3_2_5
  have q1_2_M3 : id (M3 1 2 = M 1 2) := eM3_1_2
  have q1_4_M3 : id (M3 1 4 = M 1 4) := eM3_1_4
  have q1_6_M3 : id (M3 1 6 = M 1 6) := eM3_1_6
  have q11_5_M3 : id (M3 11 5 = M 11 5) := eM3_11_5
  have q10_2_M3 : id (M3 10 2 = M 10 2) := eM3_10_2
  have q10_4_M3 : id (M3 10 4 = M 10 4) := eM3_10_4
  have q10_6_M3 : id (M3 10 6 = M 10 6) := eM3_10_6
  have q20_5_M3 : id (M3 20 5 = M 20 5) := eM3_20_5
  have q19_2_M3 : id (M3 19 2 = M 19 2) := eM3_19_2
  have q19_4_M3 : id (M3 19 4 = M 19 4) := eM3_19_4
  have q19_6_M3 : id (M3 19 6 = M 19 6) := eM3_19_6
  have q29_0_M3 : id (M3 29 0 = M 29 0) := eM3_29_0
  have q29_1_M3 : id (M3 29 1 = M 29 1) := eM3_29_1
  have q31_1_M3 : id (M3 31 1 = M 31 1) := eM3_31_1
  clear eM3_2_5 eM3_1_2 eM3_1_4 eM3_1_6 eM3_11_5 eM3_10_2 eM3_10_4 eM3_10_6 eM3_20_5 eM3_19_2 eM3_19_4 eM3_19_6 eM3_29_0 eM3_29_1 eM3_31_1
  refine g_callVi (pc' := 10) (As := [vi z2]) (b := 0) (S := []) dX9_night_7 rfl m_X9_79 w_X9_answered (c_X9_answered X M3 iM3 z2 ⟨by omega, by omega⟩) rfl ⟨_, _, _, rfl, rfl, rfl⟩ (by decide) (by decide) rfl (Nat.le_of_ble_eq_true rfl) (fun z5 M6 q4 => ?_)
  obtain ⟨iM6, fM60, eM6_2_5, eM6_1_2, eM6_1_4, eM6_1_6, eM6_11_5, eM6_10_2, eM6_10_4, eM6_10_6, eM6_20_5, eM6_19_2, eM6_19_4, eM6_19_6, eM6_29_0, eM6_29_1, eM6_31_1, pM6⟩ := q4
  have fM6 : Fr (fun c => c ≤ 96) M M6 := Fr.tr fM3 fM60 fi_10
  have q2_5_M6 : id (M6 2 5 = M 2 5) := eM6_2_5.trans q2_5_M3
  have q1_2_M6 : id (M6 1 2 = M 1 2) := eM6_1_2.trans q1_2_M3
  have q1_4_M6 : id (M6 1 4 = M 1 4) := eM6_1_4.trans q1_4_M3
  have q1_6_M6 : id (M6 1 6 = M 1 6) := eM6_1_6.trans q1_6_M3
  have q11_5_M6 : id (M6 11 5 = M 11 5) := eM6_11_5.trans q11_5_M3
  have q10_2_M6 : id (M6 10 2 = M 10 2) := eM6_10_2.trans q10_2_M3
  have q10_4_M6 : id (M6 10 4 = M 10 4) := eM6_10_4.trans q10_4_M3
  have q10_6_M6 : id (M6 10 6 = M 10 6) := eM6_10_6.trans q10_6_M3
  have q20_5_M6 : id (M6 20 5 = M 20 5) := eM6_20_5.trans q20_5_M3
  have q19_2_M6 : id (M6 19 2 = M 19 2) := eM6_19_2.trans q19_2_M3
  have q19_4_M6 : id (M6 19 4 = M 19 4) := eM6_19_4.trans q19_4_M3
  have q19_6_M6 : id (M6 19 6 = M 19 6) := eM6_19_6.trans q19_6_M3
  have q29_0_M6 : id (M6 29 0 = M 29 0) := eM6_29_0.trans q29_0_M3
  have q29_1_M6 : id (M6 29 1 = M 29 1) := eM6_29_1.trans q29_1_M3
  have q31_1_M6 : id (M6 31 1 = M 31 1) := eM6_31_1.trans q31_1_M3
  clear eM6_2_5 eM6_1_2 eM6_1_4 eM6_1_6 eM6_11_5 eM6_10_2 eM6_10_4 eM6_10_6 eM6_20_5 eM6_19_2 eM6_19_4 eM6_19_6 eM6_29_0 eM6_29_1 eM6_31_1
  refine g_ireturn dX9_night_10 ?_
  exact ⟨iM6, fM6, q2_5_M6, q1_2_M6, q1_4_M6, q1_6_M6, q11_5_M6, q10_2_M6, q10_4_M6, q10_6_M6, q20_5_M6, q19_2_M6, q19_4_M6, q19_6_M6, q29_0_M6, q29_1_M6, q31_1_M6, by omega⟩
set_option maxHeartbeats 4000000 in
set_option maxRecDepth 100000 in
theorem c_X9_keepImage (X : Cx) (M : Mm) (hi : IC M) (a : Int) (ha : inI a) : Con X 4 yX9_keepImage cX9_keepImage 2 (some .int) [vr X 0, vi a] M (Qi (fun r M1 => IC M1 ∧ Fr (fun c => (10 ≤ c ∧ c ≤ 27) ∨ c = 29) M M1 ∧ M1 2 5 = M 2 5 ∧ M1 1 2 = M 1 2 ∧ M1 1 4 = M 1 4 ∧ M1 1 6 = M 1 6 ∧ M1 31 1 = M 31 1 ∧ (((a < 0 ∨ 1 < a) → r = -1 ∧ M1 11 5 = M 11 5 ∧ M1 10 2 = M 10 2 ∧ M1 10 4 = M 10 4 ∧ M1 10 6 = M 10 6 ∧ M1 29 0 = M 29 0 ∧ M1 20 5 = M 20 5 ∧ M1 19 2 = M 19 2 ∧ M1 19 4 = M 19 4 ∧ M1 19 6 = M 19 6 ∧ M1 29 1 = M 29 1) ∧ (a = 0 → r = 0 ∧ M1 11 5 = M 2 5 ∧ M1 10 2 = M 1 2 ∧ M1 10 4 = M 1 4 ∧ M1 10 6 = M 1 6 ∧ M1 29 0 = 1 ∧ M1 20 5 = M 20 5 ∧ M1 19 2 = M 19 2 ∧ M1 19 4 = M 19 4 ∧ M1 19 6 = M 19 6 ∧ M1 29 1 = M 29 1) ∧ (a = 1 → r = 0 ∧ M1 20 5 = M 2 5 ∧ M1 19 2 = M 1 2 ∧ M1 19 4 = M 1 4 ∧ M1 19 6 = M 1 6 ∧ M1 29 1 = 1 ∧ M1 11 5 = M 11 5 ∧ M1 10 2 = M 10 2 ∧ M1 10 4 = M 10 4 ∧ M1 10 6 = M 10 6 ∧ M1 29 0 = M 29 0)))) := by
  refine Con.ofG rfl (Nat.le_of_ble_eq_true rfl) ?_
  show G X 4 RX9 cX9_keepImage 2 (some .int) (Qi (fun r M1 => IC M1 ∧ Fr (fun c => (10 ≤ c ∧ c ≤ 27) ∨ c = 29) M M1 ∧ M1 2 5 = M 2 5 ∧ M1 1 2 = M 1 2 ∧ M1 1 4 = M 1 4 ∧ M1 1 6 = M 1 6 ∧ M1 31 1 = M 31 1 ∧ (((a < 0 ∨ 1 < a) → r = -1 ∧ M1 11 5 = M 11 5 ∧ M1 10 2 = M 10 2 ∧ M1 10 4 = M 10 4 ∧ M1 10 6 = M 10 6 ∧ M1 29 0 = M 29 0 ∧ M1 20 5 = M 20 5 ∧ M1 19 2 = M 19 2 ∧ M1 19 4 = M 19 4 ∧ M1 19 6 = M 19 6 ∧ M1 29 1 = M 29 1) ∧ (a = 0 → r = 0 ∧ M1 11 5 = M 2 5 ∧ M1 10 2 = M 1 2 ∧ M1 10 4 = M 1 4 ∧ M1 10 6 = M 1 6 ∧ M1 29 0 = 1 ∧ M1 20 5 = M 20 5 ∧ M1 19 2 = M 19 2 ∧ M1 19 4 = M 19 4 ∧ M1 19 6 = M 19 6 ∧ M1 29 1 = M 29 1) ∧ (a = 1 → r = 0 ∧ M1 20 5 = M 2 5 ∧ M1 19 2 = M 1 2 ∧ M1 19 4 = M 1 4 ∧ M1 19 6 = M 1 6 ∧ M1 29 1 = 1 ∧ M1 11 5 = M 11 5 ∧ M1 10 2 = M 10 2 ∧ M1 10 4 = M 10 4 ∧ M1 10 6 = M 10 6 ∧ M1 29 0 = M 29 0)))) 0 [(0, vr X 0), (1, vi a)] [] M
  refine g_iload_n (pc' := 1) 1 dX9_keepImage_0 rfl rfl ?_
  refine g_if_lt (pc' := 4) (tgt := 9) ha dX9_keepImage_1 rfl rfl (fun c1 => ?_) (fun c1 => ?_)
  · refine g_iconst (pc' := 10) dX9_keepImage_9 rfl ?_
    refine g_ireturn dX9_keepImage_10 ?_
    exact ⟨hi, Fr.rf, rfl, rfl, rfl, rfl, rfl, by omega⟩
  · refine g_iload_n (pc' := 5) 1 dX9_keepImage_4 rfl rfl ?_
    refine g_iconst (pc' := 6) dX9_keepImage_5 rfl ?_
    refine g_ic_lt (pc' := 9) (tgt := 11) ha (by decide) dX9_keepImage_6 rfl rfl (fun c2 => ?_) (fun c2 => ?_)
    · refine g_aload_n (pc' := 12) 0 dX9_keepImage_11 rfl rfl ?_
      refine g_getR (pc' := 15) dX9_keepImage_12 rfl f_X9_16 rfl rfl ?_
      rcases (show a = 0 ∨ a = 1 by omega) with rfl | rfl
      · refine g_iload_n (pc' := 16) 1 dX9_keepImage_15 rfl rfl ?_
        refine g_aald (pc' := 17) (t := 0) (C := RX6) dX9_keepImage_16 rfl rfl (fun _ => rfl) (by decide) (by decide) ?_
        refine g_aload_n (pc' := 18) 0 dX9_keepImage_17 rfl rfl ?_
        refine g_getR (pc' := 21) dX9_keepImage_18 rfl f_X9_12 rfl rfl ?_
        refine g_callVv (pc' := 24) (As := [vr X 1]) (b := 10) (S := []) dX9_keepImage_21 rfl m_X9_289 w_X6_copyFrom (c_X6_copyFrom_10_1 X M hi) rfl ⟨_, _, _, rfl, rfl, rfl⟩ (by decide) (by decide) rfl (Nat.le_of_ble_eq_true rfl) (fun M4 q3 => ?_)
        obtain ⟨iM4, fM40, pM4⟩ := q3
        have fM4 : Fr (fun c => (10 ≤ c ∧ c ≤ 27) ∨ c = 29) M M4 := Fr.tr Fr.rf fM40 (fun c z => by first | omega | (dsimp only at z ⊢; omega))
        have q2_5_M4 : id (M4 2 5 = M 2 5) := (congrFun (fM40 2 (by first | decide | omega | (dsimp only; omega))) 5)
        have q1_2_M4 : id (M4 1 2 = M 1 2) := (congrFun (fM40 1 (by first | decide | omega | (dsimp only; omega))) 2)
        have q1_4_M4 : id (M4 1 4 = M 1 4) := (congrFun (fM40 1 (by first | decide | omega | (dsimp only; omega))) 4)
        have q1_6_M4 : id (M4 1 6 = M 1 6) := (congrFun (fM40 1 (by first | decide | omega | (dsimp only; omega))) 6)
        have q31_1_M4 : id (M4 31 1 = M 31 1) := (congrFun (fM40 31 (by first | decide | omega | (dsimp only; omega))) 1)
        have q29_0_M4 : (M4 29 0 = M 29 0) := (congrFun (fM40 29 (by first | decide | omega | (dsimp only; omega))) 0)
        have q20_5_M4 : (M4 20 5 = M 20 5) := (congrFun (fM40 20 (by first | decide | omega | (dsimp only; omega))) 5)
        have q19_2_M4 : (M4 19 2 = M 19 2) := (congrFun (fM40 19 (by first | decide | omega | (dsimp only; omega))) 2)
        have q19_4_M4 : (M4 19 4 = M 19 4) := (congrFun (fM40 19 (by first | decide | omega | (dsimp only; omega))) 4)
        have q19_6_M4 : (M4 19 6 = M 19 6) := (congrFun (fM40 19 (by first | decide | omega | (dsimp only; omega))) 6)
        have q29_1_M4 : (M4 29 1 = M 29 1) := (congrFun (fM40 29 (by first | decide | omega | (dsimp only; omega))) 1)
        have wM4_29_0 : M4 29 0 = M 29 0 := (congrFun (fM40 29 (by first | decide | omega | (dsimp only; omega))) 0)
        have wM4_20_5 : M4 20 5 = M 20 5 := (congrFun (fM40 20 (by first | decide | omega | (dsimp only; omega))) 5)
        have wM4_19_2 : M4 19 2 = M 19 2 := (congrFun (fM40 19 (by first | decide | omega | (dsimp only; omega))) 2)
        have wM4_19_4 : M4 19 4 = M 19 4 := (congrFun (fM40 19 (by first | decide | omega | (dsimp only; omega))) 4)
        have wM4_19_6 : M4 19 6 = M 19 6 := (congrFun (fM40 19 (by first | decide | omega | (dsimp only; omega))) 6)
        have wM4_29_1 : M4 29 1 = M 29 1 := (congrFun (fM40 29 (by first | decide | omega | (dsimp only; omega))) 1)
        refine g_aload_n (pc' := 25) 0 dX9_keepImage_24 rfl rfl ?_
        refine g_getR (pc' := 28) dX9_keepImage_25 rfl f_X9_20 rfl rfl ?_
        refine g_iload_n (pc' := 29) 1 dX9_keepImage_28 rfl rfl ?_
        refine g_iconst (pc' := 30) dX9_keepImage_29 rfl ?_
        refine g_zast (pc' := 31) dX9_keepImage_30 rfl rfl (by decide) (by decide) (by omega) (fun M5 hM5 => ?_)
        have iM5 : IC M5 := IC.wr iM4 hM5 (by unfold okw isT; first | decide | omega)
        have fM5 : Fr (fun c => (10 ≤ c ∧ c ≤ 27) ∨ c = 29) M M5 := Fr.wr fM4 hM5 (by first | decide | omega | (dsimp only; omega))
        have q2_5_M5 : id (M5 2 5 = M 2 5) := (show M5 2 5 = M4 2 5 by rw [hM5]; exact mu_ne _ _ (by first | decide | omega)).trans q2_5_M4
        have q1_2_M5 : id (M5 1 2 = M 1 2) := (show M5 1 2 = M4 1 2 by rw [hM5]; exact mu_ne _ _ (by first | decide | omega)).trans q1_2_M4
        have q1_4_M5 : id (M5 1 4 = M 1 4) := (show M5 1 4 = M4 1 4 by rw [hM5]; exact mu_ne _ _ (by first | decide | omega)).trans q1_4_M4
        have q1_6_M5 : id (M5 1 6 = M 1 6) := (show M5 1 6 = M4 1 6 by rw [hM5]; exact mu_ne _ _ (by first | decide | omega)).trans q1_6_M4
        have q31_1_M5 : id (M5 31 1 = M 31 1) := (show M5 31 1 = M4 31 1 by rw [hM5]; exact mu_ne _ _ (by first | decide | omega)).trans q31_1_M4
        have q20_5_M5 : (M5 20 5 = M 20 5) := (show M5 20 5 = M4 20 5 by rw [hM5]; exact mu_ne _ _ (by first | decide | omega)).trans q20_5_M4
        have q19_2_M5 : (M5 19 2 = M 19 2) := (show M5 19 2 = M4 19 2 by rw [hM5]; exact mu_ne _ _ (by first | decide | omega)).trans q19_2_M4
        have q19_4_M5 : (M5 19 4 = M 19 4) := (show M5 19 4 = M4 19 4 by rw [hM5]; exact mu_ne _ _ (by first | decide | omega)).trans q19_4_M4
        have q19_6_M5 : (M5 19 6 = M 19 6) := (show M5 19 6 = M4 19 6 by rw [hM5]; exact mu_ne _ _ (by first | decide | omega)).trans q19_6_M4
        have q29_1_M5 : (M5 29 1 = M 29 1) := (show M5 29 1 = M4 29 1 by rw [hM5]; exact mu_ne _ _ (by first | decide | omega)).trans q29_1_M4
        have wM5_11_5 : M5 11 5 = M4 11 5 := by rw [hM5]; exact mu_ne _ _ (by first | decide | omega)
        have wM5_10_2 : M5 10 2 = M4 10 2 := by rw [hM5]; exact mu_ne _ _ (by first | decide | omega)
        have wM5_10_4 : M5 10 4 = M4 10 4 := by rw [hM5]; exact mu_ne _ _ (by first | decide | omega)
        have wM5_10_6 : M5 10 6 = M4 10 6 := by rw [hM5]; exact mu_ne _ _ (by first | decide | omega)
        have wM5_20_5 : M5 20 5 = M4 20 5 := by rw [hM5]; exact mu_ne _ _ (by first | decide | omega)
        have wM5_19_2 : M5 19 2 = M4 19 2 := by rw [hM5]; exact mu_ne _ _ (by first | decide | omega)
        have wM5_19_4 : M5 19 4 = M4 19 4 := by rw [hM5]; exact mu_ne _ _ (by first | decide | omega)
        have wM5_19_6 : M5 19 6 = M4 19 6 := by rw [hM5]; exact mu_ne _ _ (by first | decide | omega)
        have wM5_29_1 : M5 29 1 = M4 29 1 := by rw [hM5]; exact mu_ne _ _ (by first | decide | omega)
        have xM5_29_0 : M5 29 0 = 1 := by rw [hM5]; exact mu_at _ _ _ _
        refine g_iconst (pc' := 32) dX9_keepImage_31 rfl ?_
        refine g_ireturn dX9_keepImage_32 ?_
        exact ⟨iM5, fM5, q2_5_M5, q1_2_M5, q1_4_M5, q1_6_M5, q31_1_M5, by omega⟩
      · refine g_iload_n (pc' := 16) 1 dX9_keepImage_15 rfl rfl ?_
        refine g_aald (pc' := 17) (t := 0) (C := RX6) dX9_keepImage_16 rfl rfl (fun _ => rfl) (by decide) (by decide) ?_
        refine g_aload_n (pc' := 18) 0 dX9_keepImage_17 rfl rfl ?_
        refine g_getR (pc' := 21) dX9_keepImage_18 rfl f_X9_12 rfl rfl ?_
        refine g_callVv (pc' := 24) (As := [vr X 1]) (b := 19) (S := []) dX9_keepImage_21 rfl m_X9_289 w_X6_copyFrom (c_X6_copyFrom_19_1 X M hi) rfl ⟨_, _, _, rfl, rfl, rfl⟩ (by decide) (by decide) rfl (Nat.le_of_ble_eq_true rfl) (fun M7 q6 => ?_)
        obtain ⟨iM7, fM70, pM7⟩ := q6
        have fM7 : Fr (fun c => (10 ≤ c ∧ c ≤ 27) ∨ c = 29) M M7 := Fr.tr Fr.rf fM70 (fun c z => by first | omega | (dsimp only at z ⊢; omega))
        have q2_5_M7 : id (M7 2 5 = M 2 5) := (congrFun (fM70 2 (by first | decide | omega | (dsimp only; omega))) 5)
        have q1_2_M7 : id (M7 1 2 = M 1 2) := (congrFun (fM70 1 (by first | decide | omega | (dsimp only; omega))) 2)
        have q1_4_M7 : id (M7 1 4 = M 1 4) := (congrFun (fM70 1 (by first | decide | omega | (dsimp only; omega))) 4)
        have q1_6_M7 : id (M7 1 6 = M 1 6) := (congrFun (fM70 1 (by first | decide | omega | (dsimp only; omega))) 6)
        have q31_1_M7 : id (M7 31 1 = M 31 1) := (congrFun (fM70 31 (by first | decide | omega | (dsimp only; omega))) 1)
        have q11_5_M7 : (M7 11 5 = M 11 5) := (congrFun (fM70 11 (by first | decide | omega | (dsimp only; omega))) 5)
        have q10_2_M7 : (M7 10 2 = M 10 2) := (congrFun (fM70 10 (by first | decide | omega | (dsimp only; omega))) 2)
        have q10_4_M7 : (M7 10 4 = M 10 4) := (congrFun (fM70 10 (by first | decide | omega | (dsimp only; omega))) 4)
        have q10_6_M7 : (M7 10 6 = M 10 6) := (congrFun (fM70 10 (by first | decide | omega | (dsimp only; omega))) 6)
        have q29_0_M7 : (M7 29 0 = M 29 0) := (congrFun (fM70 29 (by first | decide | omega | (dsimp only; omega))) 0)
        have q29_1_M7 : (M7 29 1 = M 29 1) := (congrFun (fM70 29 (by first | decide | omega | (dsimp only; omega))) 1)
        have wM7_11_5 : M7 11 5 = M 11 5 := (congrFun (fM70 11 (by first | decide | omega | (dsimp only; omega))) 5)
        have wM7_10_2 : M7 10 2 = M 10 2 := (congrFun (fM70 10 (by first | decide | omega | (dsimp only; omega))) 2)
        have wM7_10_4 : M7 10 4 = M 10 4 := (congrFun (fM70 10 (by first | decide | omega | (dsimp only; omega))) 4)
        have wM7_10_6 : M7 10 6 = M 10 6 := (congrFun (fM70 10 (by first | decide | omega | (dsimp only; omega))) 6)
        have wM7_29_0 : M7 29 0 = M 29 0 := (congrFun (fM70 29 (by first | decide | omega | (dsimp only; omega))) 0)
        have wM7_29_1 : M7 29 1 = M 29 1 := (congrFun (fM70 29 (by first | decide | omega | (dsimp only; omega))) 1)
        refine g_aload_n (pc' := 25) 0 dX9_keepImage_24 rfl rfl ?_
        refine g_getR (pc' := 28) dX9_keepImage_25 rfl f_X9_20 rfl rfl ?_
        refine g_iload_n (pc' := 29) 1 dX9_keepImage_28 rfl rfl ?_
        refine g_iconst (pc' := 30) dX9_keepImage_29 rfl ?_
        refine g_zast (pc' := 31) dX9_keepImage_30 rfl rfl (by decide) (by decide) (by omega) (fun M8 hM8 => ?_)
        have iM8 : IC M8 := IC.wr iM7 hM8 (by unfold okw isT; first | decide | omega)
        have fM8 : Fr (fun c => (10 ≤ c ∧ c ≤ 27) ∨ c = 29) M M8 := Fr.wr fM7 hM8 (by first | decide | omega | (dsimp only; omega))
        have q2_5_M8 : id (M8 2 5 = M 2 5) := (show M8 2 5 = M7 2 5 by rw [hM8]; exact mu_ne _ _ (by first | decide | omega)).trans q2_5_M7
        have q1_2_M8 : id (M8 1 2 = M 1 2) := (show M8 1 2 = M7 1 2 by rw [hM8]; exact mu_ne _ _ (by first | decide | omega)).trans q1_2_M7
        have q1_4_M8 : id (M8 1 4 = M 1 4) := (show M8 1 4 = M7 1 4 by rw [hM8]; exact mu_ne _ _ (by first | decide | omega)).trans q1_4_M7
        have q1_6_M8 : id (M8 1 6 = M 1 6) := (show M8 1 6 = M7 1 6 by rw [hM8]; exact mu_ne _ _ (by first | decide | omega)).trans q1_6_M7
        have q31_1_M8 : id (M8 31 1 = M 31 1) := (show M8 31 1 = M7 31 1 by rw [hM8]; exact mu_ne _ _ (by first | decide | omega)).trans q31_1_M7
        have q11_5_M8 : (M8 11 5 = M 11 5) := (show M8 11 5 = M7 11 5 by rw [hM8]; exact mu_ne _ _ (by first | decide | omega)).trans q11_5_M7
        have q10_2_M8 : (M8 10 2 = M 10 2) := (show M8 10 2 = M7 10 2 by rw [hM8]; exact mu_ne _ _ (by first | decide | omega)).trans q10_2_M7
        have q10_4_M8 : (M8 10 4 = M 10 4) := (show M8 10 4 = M7 10 4 by rw [hM8]; exact mu_ne _ _ (by first | decide | omega)).trans q10_4_M7
        have q10_6_M8 : (M8 10 6 = M 10 6) := (show M8 10 6 = M7 10 6 by rw [hM8]; exact mu_ne _ _ (by first | decide | omega)).trans q10_6_M7
        have q29_0_M8 : (M8 29 0 = M 29 0) := (show M8 29 0 = M7 29 0 by rw [hM8]; exact mu_ne _ _ (by first | decide | omega)).trans q29_0_M7
        have wM8_11_5 : M8 11 5 = M7 11 5 := by rw [hM8]; exact mu_ne _ _ (by first | decide | omega)
        have wM8_10_2 : M8 10 2 = M7 10 2 := by rw [hM8]; exact mu_ne _ _ (by first | decide | omega)
        have wM8_10_4 : M8 10 4 = M7 10 4 := by rw [hM8]; exact mu_ne _ _ (by first | decide | omega)
        have wM8_10_6 : M8 10 6 = M7 10 6 := by rw [hM8]; exact mu_ne _ _ (by first | decide | omega)
        have wM8_29_0 : M8 29 0 = M7 29 0 := by rw [hM8]; exact mu_ne _ _ (by first | decide | omega)
        have wM8_20_5 : M8 20 5 = M7 20 5 := by rw [hM8]; exact mu_ne _ _ (by first | decide | omega)
        have wM8_19_2 : M8 19 2 = M7 19 2 := by rw [hM8]; exact mu_ne _ _ (by first | decide | omega)
        have wM8_19_4 : M8 19 4 = M7 19 4 := by rw [hM8]; exact mu_ne _ _ (by first | decide | omega)
        have wM8_19_6 : M8 19 6 = M7 19 6 := by rw [hM8]; exact mu_ne _ _ (by first | decide | omega)
        have xM8_29_1 : M8 29 1 = 1 := by rw [hM8]; exact mu_at _ _ _ _
        refine g_iconst (pc' := 32) dX9_keepImage_31 rfl ?_
        refine g_ireturn dX9_keepImage_32 ?_
        exact ⟨iM8, fM8, q2_5_M8, q1_2_M8, q1_4_M8, q1_6_M8, q31_1_M8, by omega⟩
    · refine g_iconst (pc' := 10) dX9_keepImage_9 rfl ?_
      refine g_ireturn dX9_keepImage_10 ?_
      exact ⟨hi, Fr.rf, rfl, rfl, rfl, rfl, rfl, by omega⟩
set_option maxHeartbeats 4000000 in
set_option maxRecDepth 100000 in
theorem c_X9_image (X : Cx) (M : Mm) (hi : IC M) (a : Int) (ha : inI a) : Con X 5 yX9_image cX9_image 2 (some .int) [vr X 0, vi a] M (Qi (fun r M1 => IC M1 ∧ Fr (fun c => c ≤ 96) M M1 ∧ M1 2 5 = M 2 5 ∧ M1 1 2 = M 1 2 ∧ M1 1 4 = M 1 4 ∧ M1 1 6 = M 1 6 ∧ M1 31 1 = M 31 1 ∧ (((a < 0 ∨ 1 < a) → r = -1 ∧ M1 11 5 = M 11 5 ∧ M1 10 2 = M 10 2 ∧ M1 10 4 = M 10 4 ∧ M1 10 6 = M 10 6 ∧ M1 29 0 = M 29 0 ∧ M1 20 5 = M 20 5 ∧ M1 19 2 = M 19 2 ∧ M1 19 4 = M 19 4 ∧ M1 19 6 = M 19 6 ∧ M1 29 1 = M 29 1) ∧ (a = 0 → r = 0 ∧ M1 11 5 = M 2 5 ∧ M1 10 2 = M 1 2 ∧ M1 10 4 = M 1 4 ∧ M1 10 6 = M 1 6 ∧ M1 29 0 = 1 ∧ M1 20 5 = M 20 5 ∧ M1 19 2 = M 19 2 ∧ M1 19 4 = M 19 4 ∧ M1 19 6 = M 19 6 ∧ M1 29 1 = M 29 1) ∧ (a = 1 → r = 0 ∧ M1 20 5 = M 2 5 ∧ M1 19 2 = M 1 2 ∧ M1 19 4 = M 1 4 ∧ M1 19 6 = M 1 6 ∧ M1 29 1 = 1 ∧ M1 11 5 = M 11 5 ∧ M1 10 2 = M 10 2 ∧ M1 10 4 = M 10 4 ∧ M1 10 6 = M 10 6 ∧ M1 29 0 = M 29 0)))) := by
  refine Con.ofG rfl (Nat.le_of_ble_eq_true rfl) ?_
  show G X 5 RX9 cX9_image 2 (some .int) (Qi (fun r M1 => IC M1 ∧ Fr (fun c => c ≤ 96) M M1 ∧ M1 2 5 = M 2 5 ∧ M1 1 2 = M 1 2 ∧ M1 1 4 = M 1 4 ∧ M1 1 6 = M 1 6 ∧ M1 31 1 = M 31 1 ∧ (((a < 0 ∨ 1 < a) → r = -1 ∧ M1 11 5 = M 11 5 ∧ M1 10 2 = M 10 2 ∧ M1 10 4 = M 10 4 ∧ M1 10 6 = M 10 6 ∧ M1 29 0 = M 29 0 ∧ M1 20 5 = M 20 5 ∧ M1 19 2 = M 19 2 ∧ M1 19 4 = M 19 4 ∧ M1 19 6 = M 19 6 ∧ M1 29 1 = M 29 1) ∧ (a = 0 → r = 0 ∧ M1 11 5 = M 2 5 ∧ M1 10 2 = M 1 2 ∧ M1 10 4 = M 1 4 ∧ M1 10 6 = M 1 6 ∧ M1 29 0 = 1 ∧ M1 20 5 = M 20 5 ∧ M1 19 2 = M 19 2 ∧ M1 19 4 = M 19 4 ∧ M1 19 6 = M 19 6 ∧ M1 29 1 = M 29 1) ∧ (a = 1 → r = 0 ∧ M1 20 5 = M 2 5 ∧ M1 19 2 = M 1 2 ∧ M1 19 4 = M 1 4 ∧ M1 19 6 = M 1 6 ∧ M1 29 1 = 1 ∧ M1 11 5 = M 11 5 ∧ M1 10 2 = M 10 2 ∧ M1 10 4 = M 10 4 ∧ M1 10 6 = M 10 6 ∧ M1 29 0 = M 29 0)))) 0 [(0, vr X 0), (1, vi a)] [] M
  have hi5 := (hi.1 2 isT_2).2.1
  have hi4 := (hi.1 2 isT_2).1
  have h12 := hi.2.1.1.1
  have h14 := hi.2.1.1.2.1
  have h16 := hi.2.1.1.2.2
  refine g_aload_n (pc' := 1) 0 dX9_image_0 rfl rfl ?_
  refine g_aload_n (pc' := 2) 0 dX9_image_1 rfl rfl ?_
  refine g_iload_n (pc' := 3) 1 dX9_image_2 rfl rfl ?_
  refine g_callVi (pc' := 6) (As := [vi a]) (b := 0) (S := [vr X 0]) dX9_image_3 rfl m_X9_286 w_X9_keepImage (c_X9_keepImage X M hi a ha) rfl ⟨_, _, _, rfl, rfl, rfl⟩ (by decide) (by decide) rfl (Nat.le_of_ble_eq_true rfl) (fun z2 M3 q1 => ?_)
  obtain ⟨iM3, fM30, eM3_2_5, eM3_1_2, eM3_1_4, eM3_1_6, eM3_31_1, pM3⟩ := q1
  have fM3 : Fr (fun c => c ≤ 96) M M3 := Fr.tr Fr.rf fM30 fi_21
  have q2_5_M3 : id (M3 2 5 = M 2 5) := eM3_2_5
  have q1_2_M3 : id (M3 1 2 = M 1 2) := eM3_1_2
  have q1_4_M3 : id (M3 1 4 = M 1 4) := eM3_1_4
  have q1_6_M3 : id (M3 1 6 = M 1 6) := eM3_1_6
  have q31_1_M3 : id (M3 31 1 = M 31 1) := eM3_31_1
  clear eM3_2_5 eM3_1_2 eM3_1_4 eM3_1_6 eM3_31_1
  refine g_callVi (pc' := 9) (As := [vi z2]) (b := 0) (S := []) dX9_image_6 rfl m_X9_79 w_X9_answered (c_X9_answered X M3 iM3 z2 ⟨by omega, by omega⟩) rfl ⟨_, _, _, rfl, rfl, rfl⟩ (by decide) (by decide) rfl (Nat.le_of_ble_eq_true rfl) (fun z5 M6 q4 => ?_)
  obtain ⟨iM6, fM60, eM6_2_5, eM6_1_2, eM6_1_4, eM6_1_6, eM6_11_5, eM6_10_2, eM6_10_4, eM6_10_6, eM6_20_5, eM6_19_2, eM6_19_4, eM6_19_6, eM6_29_0, eM6_29_1, eM6_31_1, pM6⟩ := q4
  have fM6 : Fr (fun c => c ≤ 96) M M6 := Fr.tr fM3 fM60 fi_10
  have q2_5_M6 : id (M6 2 5 = M 2 5) := eM6_2_5.trans q2_5_M3
  have q1_2_M6 : id (M6 1 2 = M 1 2) := eM6_1_2.trans q1_2_M3
  have q1_4_M6 : id (M6 1 4 = M 1 4) := eM6_1_4.trans q1_4_M3
  have q1_6_M6 : id (M6 1 6 = M 1 6) := eM6_1_6.trans q1_6_M3
  have q31_1_M6 : id (M6 31 1 = M 31 1) := eM6_31_1.trans q31_1_M3
  have wM6_11_5 : M6 11 5 = M3 11 5 := eM6_11_5
  have wM6_10_2 : M6 10 2 = M3 10 2 := eM6_10_2
  have wM6_10_4 : M6 10 4 = M3 10 4 := eM6_10_4
  have wM6_10_6 : M6 10 6 = M3 10 6 := eM6_10_6
  have wM6_29_0 : M6 29 0 = M3 29 0 := eM6_29_0
  have wM6_20_5 : M6 20 5 = M3 20 5 := eM6_20_5
  have wM6_19_2 : M6 19 2 = M3 19 2 := eM6_19_2
  have wM6_19_4 : M6 19 4 = M3 19 4 := eM6_19_4
  have wM6_19_6 : M6 19 6 = M3 19 6 := eM6_19_6
  have wM6_29_1 : M6 29 1 = M3 29 1 := eM6_29_1
  clear eM6_2_5 eM6_1_2 eM6_1_4 eM6_1_6 eM6_31_1
  refine g_ireturn dX9_image_9 ?_
  exact ⟨iM6, fM6, q2_5_M6, q1_2_M6, q1_4_M6, q1_6_M6, q31_1_M6, by omega⟩
set_option maxHeartbeats 4000000 in
set_option maxRecDepth 100000 in
theorem c_X9_goBack (X : Cx) (M : Mm) (hi : IC M) (a : Int) (ha : inI a) : Con X 4 yX9_goBack cX9_goBack 2 (some .int) [vr X 0, vi a] M (Qi (fun r M1 => IC M1 ∧ Fr (fun c => 1 ≤ c ∧ c ≤ 9) M M1 ∧ M1 11 5 = M 11 5 ∧ M1 10 2 = M 10 2 ∧ M1 10 4 = M 10 4 ∧ M1 10 6 = M 10 6 ∧ M1 20 5 = M 20 5 ∧ M1 19 2 = M 19 2 ∧ M1 19 4 = M 19 4 ∧ M1 19 6 = M 19 6 ∧ M1 29 0 = M 29 0 ∧ M1 29 1 = M 29 1 ∧ M1 31 1 = M 31 1 ∧ (((a < 0 ∨ 1 < a) → r = -1 ∧ M1 2 5 = M 2 5 ∧ M1 1 2 = M 1 2 ∧ M1 1 4 = M 1 4 ∧ M1 1 6 = M 1 6) ∧ (a = 0 → M 29 0 = 0 → r = -2 ∧ M1 2 5 = M 2 5 ∧ M1 1 2 = M 1 2 ∧ M1 1 4 = M 1 4 ∧ M1 1 6 = M 1 6) ∧ (a = 1 → M 29 1 = 0 → r = -2 ∧ M1 2 5 = M 2 5 ∧ M1 1 2 = M 1 2 ∧ M1 1 4 = M 1 4 ∧ M1 1 6 = M 1 6) ∧ (a = 0 → M 29 0 ≠ 0 → r = 0 ∧ M1 2 5 = M 11 5 ∧ M1 1 2 = M 10 2 ∧ M1 1 4 = M 10 4 ∧ M1 1 6 = M 10 6) ∧ (a = 1 → M 29 1 ≠ 0 → r = 0 ∧ M1 2 5 = M 20 5 ∧ M1 1 2 = M 19 2 ∧ M1 1 4 = M 19 4 ∧ M1 1 6 = M 19 6)))) := by
  refine Con.ofG rfl (Nat.le_of_ble_eq_true rfl) ?_
  show G X 4 RX9 cX9_goBack 2 (some .int) (Qi (fun r M1 => IC M1 ∧ Fr (fun c => 1 ≤ c ∧ c ≤ 9) M M1 ∧ M1 11 5 = M 11 5 ∧ M1 10 2 = M 10 2 ∧ M1 10 4 = M 10 4 ∧ M1 10 6 = M 10 6 ∧ M1 20 5 = M 20 5 ∧ M1 19 2 = M 19 2 ∧ M1 19 4 = M 19 4 ∧ M1 19 6 = M 19 6 ∧ M1 29 0 = M 29 0 ∧ M1 29 1 = M 29 1 ∧ M1 31 1 = M 31 1 ∧ (((a < 0 ∨ 1 < a) → r = -1 ∧ M1 2 5 = M 2 5 ∧ M1 1 2 = M 1 2 ∧ M1 1 4 = M 1 4 ∧ M1 1 6 = M 1 6) ∧ (a = 0 → M 29 0 = 0 → r = -2 ∧ M1 2 5 = M 2 5 ∧ M1 1 2 = M 1 2 ∧ M1 1 4 = M 1 4 ∧ M1 1 6 = M 1 6) ∧ (a = 1 → M 29 1 = 0 → r = -2 ∧ M1 2 5 = M 2 5 ∧ M1 1 2 = M 1 2 ∧ M1 1 4 = M 1 4 ∧ M1 1 6 = M 1 6) ∧ (a = 0 → M 29 0 ≠ 0 → r = 0 ∧ M1 2 5 = M 11 5 ∧ M1 1 2 = M 10 2 ∧ M1 1 4 = M 10 4 ∧ M1 1 6 = M 10 6) ∧ (a = 1 → M 29 1 ≠ 0 → r = 0 ∧ M1 2 5 = M 20 5 ∧ M1 1 2 = M 19 2 ∧ M1 1 4 = M 19 4 ∧ M1 1 6 = M 19 6)))) 0 [(0, vr X 0), (1, vi a)] [] M
  refine g_iload_n (pc' := 1) 1 dX9_goBack_0 rfl rfl ?_
  refine g_if_lt (pc' := 4) (tgt := 9) ha dX9_goBack_1 rfl rfl (fun c1 => ?_) (fun c1 => ?_)
  · refine g_iconst (pc' := 10) dX9_goBack_9 rfl ?_
    refine g_ireturn dX9_goBack_10 ?_
    exact ⟨hi, Fr.rf, rfl, rfl, rfl, rfl, rfl, rfl, rfl, rfl, rfl, rfl, rfl, by omega⟩
  · refine g_iload_n (pc' := 5) 1 dX9_goBack_4 rfl rfl ?_
    refine g_iconst (pc' := 6) dX9_goBack_5 rfl ?_
    refine g_ic_lt (pc' := 9) (tgt := 11) ha (by decide) dX9_goBack_6 rfl rfl (fun c2 => ?_) (fun c2 => ?_)
    · refine g_aload_n (pc' := 12) 0 dX9_goBack_11 rfl rfl ?_
      refine g_getR (pc' := 15) dX9_goBack_12 rfl f_X9_20 rfl rfl ?_
      rcases (show a = 0 ∨ a = 1 by omega) with rfl | rfl
      · refine g_iload_n (pc' := 16) 1 dX9_goBack_15 rfl rfl ?_
        refine g_zald (pc' := 17) dX9_goBack_16 rfl rfl (by decide) (by decide) (fun v3 ev3 rv3 => ?_)
        have av3 : v3 = M 29 0 := ev3
        refine g_if_ne (pc' := 20) (tgt := 23) rv3 dX9_goBack_17 rfl rfl (fun c4 => ?_) (fun c4 => ?_)
        · refine g_aload_n (pc' := 24) 0 dX9_goBack_23 rfl rfl ?_
          refine g_getR (pc' := 27) dX9_goBack_24 rfl f_X9_12 rfl rfl ?_
          refine g_aload_n (pc' := 28) 0 dX9_goBack_27 rfl rfl ?_
          refine g_getR (pc' := 31) dX9_goBack_28 rfl f_X9_16 rfl rfl ?_
          refine g_iload_n (pc' := 32) 1 dX9_goBack_31 rfl rfl ?_
          refine g_aald (pc' := 33) (t := 0) (C := RX6) dX9_goBack_32 rfl rfl (fun _ => rfl) (by decide) (by decide) ?_
          refine g_callVv (pc' := 36) (As := [vr X 10]) (b := 1) (S := []) dX9_goBack_33 rfl m_X9_289 w_X6_copyFrom (c_X6_copyFrom_1_10 X M hi) rfl ⟨_, _, _, rfl, rfl, rfl⟩ (by decide) (by decide) rfl (Nat.le_of_ble_eq_true rfl) (fun M6 q5 => ?_)
          obtain ⟨iM6, fM60, pM6⟩ := q5
          have fM6 : Fr (fun c => 1 ≤ c ∧ c ≤ 9) M M6 := Fr.tr Fr.rf fM60 (fun c z => by first | omega | (dsimp only at z ⊢; omega))
          have q11_5_M6 : id (M6 11 5 = M 11 5) := (congrFun (fM60 11 (by first | decide | omega | (dsimp only; omega))) 5)
          have q10_2_M6 : id (M6 10 2 = M 10 2) := (congrFun (fM60 10 (by first | decide | omega | (dsimp only; omega))) 2)
          have q10_4_M6 : id (M6 10 4 = M 10 4) := (congrFun (fM60 10 (by first | decide | omega | (dsimp only; omega))) 4)
          have q10_6_M6 : id (M6 10 6 = M 10 6) := (congrFun (fM60 10 (by first | decide | omega | (dsimp only; omega))) 6)
          have q20_5_M6 : id (M6 20 5 = M 20 5) := (congrFun (fM60 20 (by first | decide | omega | (dsimp only; omega))) 5)
          have q19_2_M6 : id (M6 19 2 = M 19 2) := (congrFun (fM60 19 (by first | decide | omega | (dsimp only; omega))) 2)
          have q19_4_M6 : id (M6 19 4 = M 19 4) := (congrFun (fM60 19 (by first | decide | omega | (dsimp only; omega))) 4)
          have q19_6_M6 : id (M6 19 6 = M 19 6) := (congrFun (fM60 19 (by first | decide | omega | (dsimp only; omega))) 6)
          have q29_0_M6 : id (M6 29 0 = M 29 0) := (congrFun (fM60 29 (by first | decide | omega | (dsimp only; omega))) 0)
          have q29_1_M6 : id (M6 29 1 = M 29 1) := (congrFun (fM60 29 (by first | decide | omega | (dsimp only; omega))) 1)
          have q31_1_M6 : id (M6 31 1 = M 31 1) := (congrFun (fM60 31 (by first | decide | omega | (dsimp only; omega))) 1)
          refine g_iconst (pc' := 37) dX9_goBack_36 rfl ?_
          refine g_ireturn dX9_goBack_37 ?_
          exact ⟨iM6, fM6, q11_5_M6, q10_2_M6, q10_4_M6, q10_6_M6, q20_5_M6, q19_2_M6, q19_4_M6, q19_6_M6, q29_0_M6, q29_1_M6, q31_1_M6, by omega⟩
        · refine g_bipush (pc' := 22) (v := (-2)) dX9_goBack_20 rfl (by decide) ?_
          refine g_ireturn dX9_goBack_22 ?_
          exact ⟨hi, Fr.rf, rfl, rfl, rfl, rfl, rfl, rfl, rfl, rfl, rfl, rfl, rfl, by omega⟩
      · refine g_iload_n (pc' := 16) 1 dX9_goBack_15 rfl rfl ?_
        refine g_zald (pc' := 17) dX9_goBack_16 rfl rfl (by decide) (by decide) (fun v7 ev7 rv7 => ?_)
        have av7 : v7 = M 29 1 := ev7
        refine g_if_ne (pc' := 20) (tgt := 23) rv7 dX9_goBack_17 rfl rfl (fun c8 => ?_) (fun c8 => ?_)
        · refine g_aload_n (pc' := 24) 0 dX9_goBack_23 rfl rfl ?_
          refine g_getR (pc' := 27) dX9_goBack_24 rfl f_X9_12 rfl rfl ?_
          refine g_aload_n (pc' := 28) 0 dX9_goBack_27 rfl rfl ?_
          refine g_getR (pc' := 31) dX9_goBack_28 rfl f_X9_16 rfl rfl ?_
          refine g_iload_n (pc' := 32) 1 dX9_goBack_31 rfl rfl ?_
          refine g_aald (pc' := 33) (t := 0) (C := RX6) dX9_goBack_32 rfl rfl (fun _ => rfl) (by decide) (by decide) ?_
          refine g_callVv (pc' := 36) (As := [vr X 19]) (b := 1) (S := []) dX9_goBack_33 rfl m_X9_289 w_X6_copyFrom (c_X6_copyFrom_1_19 X M hi) rfl ⟨_, _, _, rfl, rfl, rfl⟩ (by decide) (by decide) rfl (Nat.le_of_ble_eq_true rfl) (fun M10 q9 => ?_)
          obtain ⟨iM10, fM100, pM10⟩ := q9
          have fM10 : Fr (fun c => 1 ≤ c ∧ c ≤ 9) M M10 := Fr.tr Fr.rf fM100 (fun c z => by first | omega | (dsimp only at z ⊢; omega))
          have q11_5_M10 : id (M10 11 5 = M 11 5) := (congrFun (fM100 11 (by first | decide | omega | (dsimp only; omega))) 5)
          have q10_2_M10 : id (M10 10 2 = M 10 2) := (congrFun (fM100 10 (by first | decide | omega | (dsimp only; omega))) 2)
          have q10_4_M10 : id (M10 10 4 = M 10 4) := (congrFun (fM100 10 (by first | decide | omega | (dsimp only; omega))) 4)
          have q10_6_M10 : id (M10 10 6 = M 10 6) := (congrFun (fM100 10 (by first | decide | omega | (dsimp only; omega))) 6)
          have q20_5_M10 : id (M10 20 5 = M 20 5) := (congrFun (fM100 20 (by first | decide | omega | (dsimp only; omega))) 5)
          have q19_2_M10 : id (M10 19 2 = M 19 2) := (congrFun (fM100 19 (by first | decide | omega | (dsimp only; omega))) 2)
          have q19_4_M10 : id (M10 19 4 = M 19 4) := (congrFun (fM100 19 (by first | decide | omega | (dsimp only; omega))) 4)
          have q19_6_M10 : id (M10 19 6 = M 19 6) := (congrFun (fM100 19 (by first | decide | omega | (dsimp only; omega))) 6)
          have q29_0_M10 : id (M10 29 0 = M 29 0) := (congrFun (fM100 29 (by first | decide | omega | (dsimp only; omega))) 0)
          have q29_1_M10 : id (M10 29 1 = M 29 1) := (congrFun (fM100 29 (by first | decide | omega | (dsimp only; omega))) 1)
          have q31_1_M10 : id (M10 31 1 = M 31 1) := (congrFun (fM100 31 (by first | decide | omega | (dsimp only; omega))) 1)
          refine g_iconst (pc' := 37) dX9_goBack_36 rfl ?_
          refine g_ireturn dX9_goBack_37 ?_
          exact ⟨iM10, fM10, q11_5_M10, q10_2_M10, q10_4_M10, q10_6_M10, q20_5_M10, q19_2_M10, q19_4_M10, q19_6_M10, q29_0_M10, q29_1_M10, q31_1_M10, by omega⟩
        · refine g_bipush (pc' := 22) (v := (-2)) dX9_goBack_20 rfl (by decide) ?_
          refine g_ireturn dX9_goBack_22 ?_
          exact ⟨hi, Fr.rf, rfl, rfl, rfl, rfl, rfl, rfl, rfl, rfl, rfl, rfl, rfl, by omega⟩
    · refine g_iconst (pc' := 10) dX9_goBack_9 rfl ?_
      refine g_ireturn dX9_goBack_10 ?_
      exact ⟨hi, Fr.rf, rfl, rfl, rfl, rfl, rfl, rfl, rfl, rfl, rfl, rfl, rfl, by omega⟩
set_option maxHeartbeats 4000000 in
set_option maxRecDepth 100000 in
theorem c_X9_back (X : Cx) (M : Mm) (hi : IC M) (a : Int) (ha : inI a) : Con X 5 yX9_back cX9_back 2 (some .int) [vr X 0, vi a] M (Qi (fun r M1 => IC M1 ∧ Fr (fun c => c ≤ 96) M M1 ∧ M1 11 5 = M 11 5 ∧ M1 10 2 = M 10 2 ∧ M1 10 4 = M 10 4 ∧ M1 10 6 = M 10 6 ∧ M1 20 5 = M 20 5 ∧ M1 19 2 = M 19 2 ∧ M1 19 4 = M 19 4 ∧ M1 19 6 = M 19 6 ∧ M1 29 0 = M 29 0 ∧ M1 29 1 = M 29 1 ∧ M1 31 1 = M 31 1 ∧ (((a < 0 ∨ 1 < a) → r = -1 ∧ M1 2 5 = M 2 5 ∧ M1 1 2 = M 1 2 ∧ M1 1 4 = M 1 4 ∧ M1 1 6 = M 1 6) ∧ (a = 0 → M 29 0 = 0 → r = -2 ∧ M1 2 5 = M 2 5 ∧ M1 1 2 = M 1 2 ∧ M1 1 4 = M 1 4 ∧ M1 1 6 = M 1 6) ∧ (a = 1 → M 29 1 = 0 → r = -2 ∧ M1 2 5 = M 2 5 ∧ M1 1 2 = M 1 2 ∧ M1 1 4 = M 1 4 ∧ M1 1 6 = M 1 6) ∧ (a = 0 → M 29 0 ≠ 0 → r = 0 ∧ M1 2 5 = M 11 5 ∧ M1 1 2 = M 10 2 ∧ M1 1 4 = M 10 4 ∧ M1 1 6 = M 10 6) ∧ (a = 1 → M 29 1 ≠ 0 → r = 0 ∧ M1 2 5 = M 20 5 ∧ M1 1 2 = M 19 2 ∧ M1 1 4 = M 19 4 ∧ M1 1 6 = M 19 6)))) := by
  refine Con.ofG rfl (Nat.le_of_ble_eq_true rfl) ?_
  show G X 5 RX9 cX9_back 2 (some .int) (Qi (fun r M1 => IC M1 ∧ Fr (fun c => c ≤ 96) M M1 ∧ M1 11 5 = M 11 5 ∧ M1 10 2 = M 10 2 ∧ M1 10 4 = M 10 4 ∧ M1 10 6 = M 10 6 ∧ M1 20 5 = M 20 5 ∧ M1 19 2 = M 19 2 ∧ M1 19 4 = M 19 4 ∧ M1 19 6 = M 19 6 ∧ M1 29 0 = M 29 0 ∧ M1 29 1 = M 29 1 ∧ M1 31 1 = M 31 1 ∧ (((a < 0 ∨ 1 < a) → r = -1 ∧ M1 2 5 = M 2 5 ∧ M1 1 2 = M 1 2 ∧ M1 1 4 = M 1 4 ∧ M1 1 6 = M 1 6) ∧ (a = 0 → M 29 0 = 0 → r = -2 ∧ M1 2 5 = M 2 5 ∧ M1 1 2 = M 1 2 ∧ M1 1 4 = M 1 4 ∧ M1 1 6 = M 1 6) ∧ (a = 1 → M 29 1 = 0 → r = -2 ∧ M1 2 5 = M 2 5 ∧ M1 1 2 = M 1 2 ∧ M1 1 4 = M 1 4 ∧ M1 1 6 = M 1 6) ∧ (a = 0 → M 29 0 ≠ 0 → r = 0 ∧ M1 2 5 = M 11 5 ∧ M1 1 2 = M 10 2 ∧ M1 1 4 = M 10 4 ∧ M1 1 6 = M 10 6) ∧ (a = 1 → M 29 1 ≠ 0 → r = 0 ∧ M1 2 5 = M 20 5 ∧ M1 1 2 = M 19 2 ∧ M1 1 4 = M 19 4 ∧ M1 1 6 = M 19 6)))) 0 [(0, vr X 0), (1, vi a)] [] M
  have hi5 := (hi.1 2 isT_2).2.1
  have hi4 := (hi.1 2 isT_2).1
  have h12 := hi.2.1.1.1
  have h14 := hi.2.1.1.2.1
  have h16 := hi.2.1.1.2.2
  refine g_aload_n (pc' := 1) 0 dX9_back_0 rfl rfl ?_
  refine g_aload_n (pc' := 2) 0 dX9_back_1 rfl rfl ?_
  refine g_iload_n (pc' := 3) 1 dX9_back_2 rfl rfl ?_
  refine g_callVi (pc' := 6) (As := [vi a]) (b := 0) (S := [vr X 0]) dX9_back_3 rfl m_X9_292 w_X9_goBack (c_X9_goBack X M hi a ha) rfl ⟨_, _, _, rfl, rfl, rfl⟩ (by decide) (by decide) rfl (Nat.le_of_ble_eq_true rfl) (fun z2 M3 q1 => ?_)
  obtain ⟨iM3, fM30, eM3_11_5, eM3_10_2, eM3_10_4, eM3_10_6, eM3_20_5, eM3_19_2, eM3_19_4, eM3_19_6, eM3_29_0, eM3_29_1, eM3_31_1, pM3⟩ := q1
  have fM3 : Fr (fun c => c ≤ 96) M M3 := Fr.tr Fr.rf fM30 fi_22
  have q11_5_M3 : id (M3 11 5 = M 11 5) := eM3_11_5
  have q10_2_M3 : id (M3 10 2 = M 10 2) := eM3_10_2
  have q10_4_M3 : id (M3 10 4 = M 10 4) := eM3_10_4
  have q10_6_M3 : id (M3 10 6 = M 10 6) := eM3_10_6
  have q20_5_M3 : id (M3 20 5 = M 20 5) := eM3_20_5
  have q19_2_M3 : id (M3 19 2 = M 19 2) := eM3_19_2
  have q19_4_M3 : id (M3 19 4 = M 19 4) := eM3_19_4
  have q19_6_M3 : id (M3 19 6 = M 19 6) := eM3_19_6
  have q29_0_M3 : id (M3 29 0 = M 29 0) := eM3_29_0
  have q29_1_M3 : id (M3 29 1 = M 29 1) := eM3_29_1
  have q31_1_M3 : id (M3 31 1 = M 31 1) := eM3_31_1
  clear eM3_11_5 eM3_10_2 eM3_10_4 eM3_10_6 eM3_20_5 eM3_19_2 eM3_19_4 eM3_19_6 eM3_29_0 eM3_29_1 eM3_31_1
  refine g_callVi (pc' := 9) (As := [vi z2]) (b := 0) (S := []) dX9_back_6 rfl m_X9_79 w_X9_answered (c_X9_answered X M3 iM3 z2 ⟨by omega, by omega⟩) rfl ⟨_, _, _, rfl, rfl, rfl⟩ (by decide) (by decide) rfl (Nat.le_of_ble_eq_true rfl) (fun z5 M6 q4 => ?_)
  obtain ⟨iM6, fM60, eM6_2_5, eM6_1_2, eM6_1_4, eM6_1_6, eM6_11_5, eM6_10_2, eM6_10_4, eM6_10_6, eM6_20_5, eM6_19_2, eM6_19_4, eM6_19_6, eM6_29_0, eM6_29_1, eM6_31_1, pM6⟩ := q4
  have fM6 : Fr (fun c => c ≤ 96) M M6 := Fr.tr fM3 fM60 fi_10
  have q11_5_M6 : id (M6 11 5 = M 11 5) := eM6_11_5.trans q11_5_M3
  have q10_2_M6 : id (M6 10 2 = M 10 2) := eM6_10_2.trans q10_2_M3
  have q10_4_M6 : id (M6 10 4 = M 10 4) := eM6_10_4.trans q10_4_M3
  have q10_6_M6 : id (M6 10 6 = M 10 6) := eM6_10_6.trans q10_6_M3
  have q20_5_M6 : id (M6 20 5 = M 20 5) := eM6_20_5.trans q20_5_M3
  have q19_2_M6 : id (M6 19 2 = M 19 2) := eM6_19_2.trans q19_2_M3
  have q19_4_M6 : id (M6 19 4 = M 19 4) := eM6_19_4.trans q19_4_M3
  have q19_6_M6 : id (M6 19 6 = M 19 6) := eM6_19_6.trans q19_6_M3
  have q29_0_M6 : id (M6 29 0 = M 29 0) := eM6_29_0.trans q29_0_M3
  have q29_1_M6 : id (M6 29 1 = M 29 1) := eM6_29_1.trans q29_1_M3
  have q31_1_M6 : id (M6 31 1 = M 31 1) := eM6_31_1.trans q31_1_M3
  have wM6_2_5 : M6 2 5 = M3 2 5 := eM6_2_5
  have wM6_1_2 : M6 1 2 = M3 1 2 := eM6_1_2
  have wM6_1_4 : M6 1 4 = M3 1 4 := eM6_1_4
  have wM6_1_6 : M6 1 6 = M3 1 6 := eM6_1_6
  clear eM6_11_5 eM6_10_2 eM6_10_4 eM6_10_6 eM6_20_5 eM6_19_2 eM6_19_4 eM6_19_6 eM6_29_0 eM6_29_1 eM6_31_1
  refine g_ireturn dX9_back_9 ?_
  exact ⟨iM6, fM6, q11_5_M6, q10_2_M6, q10_4_M6, q10_6_M6, q20_5_M6, q19_2_M6, q19_4_M6, q19_6_M6, q29_0_M6, q29_1_M6, q31_1_M6, by omega⟩
