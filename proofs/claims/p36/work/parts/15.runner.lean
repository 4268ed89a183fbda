set_option maxHeartbeats 4000000 in
set_option maxRecDepth 100000 in
theorem c_X6_copyFrom_10_1 (X : Cx) (M : Mm) (hi : IC M) : Con X 2 yX6_copyFrom cX6_copyFrom 2 none [vr X 10, vr X 1] M (Qv (fun M1 => IC M1 ∧ Fr (fun c => 10 ≤ c ∧ c ≤ 18) M M1 ∧ (M1 11 5 = M 2 5 ∧ M1 10 2 = M 1 2 ∧ M1 10 4 = M 1 4 ∧ M1 10 6 = M 1 6))) := by
  refine Con.ofG rfl (Nat.le_of_ble_eq_true rfl) ?_
  show G X 2 RX6 cX6_copyFrom 2 none (Qv (fun M1 => IC M1 ∧ Fr (fun c => 10 ≤ c ∧ c ≤ 18) M M1 ∧ (M1 11 5 = M 2 5 ∧ M1 10 2 = M 1 2 ∧ M1 10 4 = M 1 4 ∧ M1 10 6 = M 1 6))) 0 [(0, vr X 10), (1, vr X 1)] [] M
  refine g_aload_n (pc' := 1) 0 dX6_copyFrom_0 rfl rfl ?_
  refine g_getR (pc' := 4) dX6_copyFrom_1 rfl f_X6_12 rfl rfl ?_
  refine g_aload_n (pc' := 5) 1 dX6_copyFrom_4 rfl rfl ?_
  refine g_getR (pc' := 8) dX6_copyFrom_5 rfl f_X6_12 rfl rfl ?_
  refine g_callVv (pc' := 11) (As := [vr X 2]) (b := 11) (S := []) dX6_copyFrom_8 rfl m_X6_28 w_X7_copyFrom (c_X7_copyFrom X M 11 isT_11 (hi.1 _ isT_11) 2 isT_2 (hi.1 _ isT_2) (by decide) (isT.apart isT_11 isT_2 (by decide))) rfl ⟨_, _, _, rfl, rfl, rfl⟩ (by decide) (by decide) rfl (Nat.le_of_ble_eq_true rfl) (fun M2 q1 => ?_)
  obtain ⟨kM2, fM20, gM20⟩ := q1
  have iM2 : IC M2 := IC.ofT hi isT_11 fM20 kM2
  have fM2 : Fr (fun c => 10 ≤ c ∧ c ≤ 18) M M2 := Fr.tr Fr.rf fM20 (fun c z => by unfold inT at z; first | omega | (dsimp only; omega))
  have q1_2_M2 : (M2 1 2 = M 1 2) := (congrFun (fM20 1 (by unfold inT; first | decide | omega)) 2)
  have q1_4_M2 : (M2 1 4 = M 1 4) := (congrFun (fM20 1 (by unfold inT; first | decide | omega)) 4)
  have q1_6_M2 : (M2 1 6 = M 1 6) := (congrFun (fM20 1 (by unfold inT; first | decide | omega)) 6)
  refine g_aload_n (pc' := 12) 1 dX6_copyFrom_11 rfl rfl ?_
  refine g_getR (pc' := 15) dX6_copyFrom_12 rfl f_X6_18 rfl rfl ?_
  refine g_iconst (pc' := 16) dX6_copyFrom_15 rfl ?_
  refine g_aload_n (pc' := 17) 0 dX6_copyFrom_16 rfl rfl ?_
  refine g_getR (pc' := 20) dX6_copyFrom_17 rfl f_X6_18 rfl rfl ?_
  refine g_iconst (pc' := 21) dX6_copyFrom_20 rfl ?_
  refine g_iconst (pc' := 22) dX6_copyFrom_21 rfl ?_
  refine g_copyI (pc' := 25) (sp := 0) (dp := 0) (n := 3) dX6_copyFrom_22 rfl m_X6_32 mn_copy ms_copy mi_Sys rfl rfl (by decide) (by decide) (by decide) (Nat.le_of_ble_eq_true rfl) (fun M3 hM3 => ?_)
  have iM3 : IC M3 := IC.cp iM2 hM3 (by unfold free isT; omega)
  have fM3 : Fr (fun c => 10 ≤ c ∧ c ≤ 18) M M3 := Fr.cp fM2 hM3 (by first | decide | omega | (dsimp only; omega))
  have q1_2_M3 : (M3 1 2 = M 1 2) := (congrFun (show M3 1 = M2 1 by rw [hM3]; exact mcp_cell _ (by first | decide | omega)) 2).trans q1_2_M2
  have q1_4_M3 : (M3 1 4 = M 1 4) := (congrFun (show M3 1 = M2 1 by rw [hM3]; exact mcp_cell _ (by first | decide | omega)) 4).trans q1_4_M2
  have q1_6_M3 : (M3 1 6 = M 1 6) := (congrFun (show M3 1 = M2 1 by rw [hM3]; exact mcp_cell _ (by first | decide | omega)) 6).trans q1_6_M2
  have xM3_11_5 : M3 11 5 = M 2 5 := (show M3 11 5 = M2 11 5 by rw [hM3]; exact congrFun (mcp_cell _ (by first | decide | omega)) 5).trans gM20
  refine g_aload_n (pc' := 26) 1 dX6_copyFrom_25 rfl rfl ?_
  refine g_getR (pc' := 29) dX6_copyFrom_26 rfl f_X6_22 rfl rfl ?_
  refine g_iconst (pc' := 30) dX6_copyFrom_29 rfl ?_
  refine g_aload_n (pc' := 31) 0 dX6_copyFrom_30 rfl rfl ?_
  refine g_getR (pc' := 34) dX6_copyFrom_31 rfl f_X6_22 rfl rfl ?_
  refine g_iconst (pc' := 35) dX6_copyFrom_34 rfl ?_
  refine g_bipush (pc' := 37) (v := 18) dX6_copyFrom_35 rfl (by decide) ?_
  refine g_copyI (pc' := 40) (sp := 0) (dp := 0) (n := 18) dX6_copyFrom_37 rfl m_X6_32 mn_copy ms_copy mi_Sys rfl rfl (by decide) (by decide) (by decide) (Nat.le_of_ble_eq_true rfl) (fun M4 hM4 => ?_)
  have iM4 : IC M4 := IC.cp iM3 hM4 (by unfold free isT; omega)
  have fM4 : Fr (fun c => 10 ≤ c ∧ c ≤ 18) M M4 := Fr.cp fM3 hM4 (by first | decide | omega | (dsimp only; omega))
  have q1_2_M4 : (M4 1 2 = M 1 2) := (congrFun (show M4 1 = M3 1 by rw [hM4]; exact mcp_cell _ (by first | decide | omega)) 2).trans q1_2_M3
  have q1_4_M4 : (M4 1 4 = M 1 4) := (congrFun (show M4 1 = M3 1 by rw [hM4]; exact mcp_cell _ (by first | decide | omega)) 4).trans q1_4_M3
  have q1_6_M4 : (M4 1 6 = M 1 6) := (congrFun (show M4 1 = M3 1 by rw [hM4]; exact mcp_cell _ (by first | decide | omega)) 6).trans q1_6_M3
  have xM4_11_5 : M4 11 5 = M 2 5 := (show M4 11 5 = M3 11 5 by rw [hM4]; exact congrFun (mcp_cell _ (by first | decide | omega)) 5).trans xM3_11_5
  refine g_aload_n (pc' := 41) 1 dX6_copyFrom_40 rfl rfl ?_
  refine g_getR (pc' := 44) dX6_copyFrom_41 rfl f_X6_25 rfl rfl ?_
  refine g_iconst (pc' := 45) dX6_copyFrom_44 rfl ?_
  refine g_aload_n (pc' := 46) 0 dX6_copyFrom_45 rfl rfl ?_
  refine g_getR (pc' := 49) dX6_copyFrom_46 rfl f_X6_25 rfl rfl ?_
  refine g_iconst (pc' := 50) dX6_copyFrom_49 rfl ?_
  refine g_bipush (pc' := 52) (v := 18) dX6_copyFrom_50 rfl (by decide) ?_
  refine g_copyI (pc' := 55) (sp := 0) (dp := 0) (n := 18) dX6_copyFrom_52 rfl m_X6_32 mn_copy ms_copy mi_Sys rfl rfl (by decide) (by decide) (by decide) (Nat.le_of_ble_eq_true rfl) (fun M5 hM5 => ?_)
  have iM5 : IC M5 := IC.cp iM4 hM5 (by unfold free isT; omega)
  have fM5 : Fr (fun c => 10 ≤ c ∧ c ≤ 18) M M5 := Fr.cp fM4 hM5 (by first | decide | omega | (dsimp only; omega))
  have q1_2_M5 : (M5 1 2 = M 1 2) := (congrFun (show M5 1 = M4 1 by rw [hM5]; exact mcp_cell _ (by first | decide | omega)) 2).trans q1_2_M4
  have q1_4_M5 : (M5 1 4 = M 1 4) := (congrFun (show M5 1 = M4 1 by rw [hM5]; exact mcp_cell _ (by first | decide | omega)) 4).trans q1_4_M4
  have q1_6_M5 : (M5 1 6 = M 1 6) := (congrFun (show M5 1 = M4 1 by rw [hM5]; exact mcp_cell _ (by first | decide | omega)) 6).trans q1_6_M4
  have xM5_11_5 : M5 11 5 = M 2 5 := (show M5 11 5 = M4 11 5 by rw [hM5]; exact congrFun (mcp_cell _ (by first | decide | omega)) 5).trans xM4_11_5
  refine g_aload_n (pc' := 56) 0 dX6_copyFrom_55 rfl rfl ?_
  refine g_aload_n (pc' := 57) 1 dX6_copyFrom_56 rfl rfl ?_
  refine g_getI (pc' := 60) dX6_copyFrom_57 rfl f_X6_38 rfl rfl (fun v6 ev6 rv6 => ?_)
  have bv6 : 0 ≤ v6 ∧ v6 ≤ 3 := by rw [ev6]; exact iM5.2.1.1.1
  have av6 : v6 = M 1 2 := ev6.trans q1_2_M5
  refine g_putI (pc' := 63) dX6_copyFrom_60 rfl p_X6_38 rfl rfl rv6 (fun M7 hM7 => ?_)
  have iM7 : IC M7 := IC.wr iM5 hM7 (by unfold okw isT; first | decide | omega)
  have fM7 : Fr (fun c => 10 ≤ c ∧ c ≤ 18) M M7 := Fr.wr fM5 hM7 (by first | decide | omega | (dsimp only; omega))
  have q1_2_M7 : (M7 1 2 = M 1 2) := (show M7 1 2 = M5 1 2 by rw [hM7]; exact mu_ne _ _ (by first | decide | omega)).trans q1_2_M5
  have q1_4_M7 : (M7 1 4 = M 1 4) := (show M7 1 4 = M5 1 4 by rw [hM7]; exact mu_ne _ _ (by first | decide | omega)).trans q1_4_M5
  have q1_6_M7 : (M7 1 6 = M 1 6) := (show M7 1 6 = M5 1 6 by rw [hM7]; exact mu_ne _ _ (by first | decide | omega)).trans q1_6_M5
  have xM7_11_5 : M7 11 5 = M 2 5 := (show M7 11 5 = M5 11 5 by rw [hM7]; exact mu_ne _ _ (by first | decide | omega)).trans xM5_11_5
  have xM7_10_2 : M7 10 2 = v6 := by rw [hM7]; exact mu_at _ _ _ _
  refine g_aload_n (pc' := 64) 0 dX6_copyFrom_63 rfl rfl ?_
  refine g_aload_n (pc' := 65) 1 dX6_copyFrom_64 rfl rfl ?_
  refine g_getI (pc' := 68) dX6_copyFrom_65 rfl f_X6_42 rfl rfl (fun v8 ev8 rv8 => ?_)
  have bv8 : 0 ≤ v8 ∧ v8 ≤ 6 := by rw [ev8]; exact iM7.2.1.1.2.1
  have av8 : v8 = M 1 4 := ev8.trans q1_4_M7
  refine g_putI (pc' := 71) dX6_copyFrom_68 rfl p_X6_42 rfl rfl rv8 (fun M9 hM9 => ?_)
  have iM9 : IC M9 := IC.wr iM7 hM9 (by unfold okw isT; first | decide | omega)
  have fM9 : Fr (fun c => 10 ≤ c ∧ c ≤ 18) M M9 := Fr.wr fM7 hM9 (by first | decide | omega | (dsimp only; omega))
  have q1_2_M9 : (M9 1 2 = M 1 2) := (show M9 1 2 = M7 1 2 by rw [hM9]; exact mu_ne _ _ (by first | decide | omega)).trans q1_2_M7
  have q1_4_M9 : (M9 1 4 = M 1 4) := (show M9 1 4 = M7 1 4 by rw [hM9]; exact mu_ne _ _ (by first | decide | omega)).trans q1_4_M7
  have q1_6_M9 : (M9 1 6 = M 1 6) := (show M9 1 6 = M7 1 6 by rw [hM9]; exact mu_ne _ _ (by first | decide | omega)).trans q1_6_M7
  have xM9_11_5 : M9 11 5 = M 2 5 := (show M9 11 5 = M7 11 5 by rw [hM9]; exact mu_ne _ _ (by first | decide | omega)).trans xM7_11_5
  have xM9_10_2 : M9 10 2 = v6 := (show M9 10 2 = M7 10 2 by rw [hM9]; exact mu_ne _ _ (by first | decide | omega)).trans xM7_10_2
  have xM9_10_4 : M9 10 4 = v8 := by rw [hM9]; exact mu_at _ _ _ _
  refine g_aload_n (pc' := 72) 0 dX6_copyFrom_71 rfl rfl ?_
  refine g_aload_n (pc' := 73) 1 dX6_copyFrom_72 rfl rfl ?_
  refine g_getI (pc' := 76) dX6_copyFrom_73 rfl f_X6_45 rfl rfl (fun v10 ev10 rv10 => ?_)
  have bv10 : 0 ≤ v10 ∧ v10 ≤ 6 := by rw [ev10]; exact iM9.2.1.1.2.2
  have av10 : v10 = M 1 6 := ev10.trans q1_6_M9
  refine g_putI (pc' := 79) dX6_copyFrom_76 rfl p_X6_45 rfl rfl rv10 (fun M11 hM11 => ?_)
  have iM11 : IC M11 := IC.wr iM9 hM11 (by unfold okw isT; first | decide | omega)
  have fM11 : Fr (fun c => 10 ≤ c ∧ c ≤ 18) M M11 := Fr.wr fM9 hM11 (by first | decide | omega | (dsimp only; omega))
  have q1_2_M11 : (M11 1 2 = M 1 2) := (show M11 1 2 = M9 1 2 by rw [hM11]; exact mu_ne _ _ (by first | decide | omega)).trans q1_2_M9
  have q1_4_M11 : (M11 1 4 = M 1 4) := (show M11 1 4 = M9 1 4 by rw [hM11]; exact mu_ne _ _ (by first | decide | omega)).trans q1_4_M9
  have q1_6_M11 : (M11 1 6 = M 1 6) := (show M11 1 6 = M9 1 6 by rw [hM11]; exact mu_ne _ _ (by first | decide | omega)).trans q1_6_M9
  have xM11_11_5 : M11 11 5 = M 2 5 := (show M11 11 5 = M9 11 5 by rw [hM11]; exact mu_ne _ _ (by first | decide | omega)).trans xM9_11_5
  have xM11_10_2 : M11 10 2 = v6 := (show M11 10 2 = M9 10 2 by rw [hM11]; exact mu_ne _ _ (by first | decide | omega)).trans xM9_10_2
  have xM11_10_4 : M11 10 4 = v8 := (show M11 10 4 = M9 10 4 by rw [hM11]; exact mu_ne _ _ (by first | decide | omega)).trans xM9_10_4
  have xM11_10_6 : M11 10 6 = v10 := by rw [hM11]; exact mu_at _ _ _ _
  refine g_vreturn dX6_copyFrom_79 ?_
  exact ⟨iM11, fM11, by omega⟩
set_option maxHeartbeats 4000000 in
set_option maxRecDepth 100000 in
theorem c_X6_copyFrom_19_1 (X : Cx) (M : Mm) (hi : IC M) : Con X 2 yX6_copyFrom cX6_copyFrom 2 none [vr X 19, vr X 1] M (Qv (fun M1 => IC M1 ∧ Fr (fun c => 19 ≤ c ∧ c ≤ 27) M M1 ∧ (M1 20 5 = M 2 5 ∧ M1 19 2 = M 1 2 ∧ M1 19 4 = M 1 4 ∧ M1 19 6 = M 1 6))) := by
  refine Con.ofG rfl (Nat.le_of_ble_eq_true rfl) ?_
  show G X 2 RX6 cX6_copyFrom 2 none (Qv (fun M1 => IC M1 ∧ Fr (fun c => 19 ≤ c ∧ c ≤ 27) M M1 ∧ (M1 20 5 = M 2 5 ∧ M1 19 2 = M 1 2 ∧ M1 19 4 = M 1 4 ∧ M1 19 6 = M 1 6))) 0 [(0, vr X 19), (1, vr X 1)] [] M
  refine g_aload_n (pc' := 1) 0 dX6_copyFrom_0 rfl rfl ?_
  refine g_getR (pc' := 4) dX6_copyFrom_1 rfl f_X6_12 rfl rfl ?_
  refine g_aload_n (pc' := 5) 1 dX6_copyFrom_4 rfl rfl ?_
  refine g_getR (pc' := 8) dX6_copyFrom_5 rfl f_X6_12 rfl rfl ?_
  refine g_callVv (pc' := 11) (As := [vr X 2]) (b := 20) (S := []) dX6_copyFrom_8 rfl m_X6_28 w_X7_copyFrom (c_X7_copyFrom X M 20 isT_20 (hi.1 _ isT_20) 2 isT_2 (hi.1 _ isT_2) (by decide) (isT.apart isT_20 isT_2 (by decide))) rfl ⟨_, _, _, rfl, rfl, rfl⟩ (by decide) (by decide) rfl (Nat.le_of_ble_eq_true rfl) (fun M2 q1 => ?_)
  obtain ⟨kM2, fM20, gM20⟩ := q1
  have iM2 : IC M2 := IC.ofT hi isT_20 fM20 kM2
  have fM2 : Fr (fun c => 19 ≤ c ∧ c ≤ 27) M M2 := Fr.tr Fr.rf fM20 (fun c z => by unfold inT at z; first | omega | (dsimp only; omega))
  have q1_2_M2 : (M2 1 2 = M 1 2) := (congrFun (fM20 1 (by unfold inT; first | decide | omega)) 2)
  have q1_4_M2 : (M2 1 4 = M 1 4) := (congrFun (fM20 1 (by unfold inT; first | decide | omega)) 4)
  have q1_6_M2 : (M2 1 6 = M 1 6) := (congrFun (fM20 1 (by unfold inT; first | decide | omega)) 6)
  refine g_aload_n (pc' := 12) 1 dX6_copyFrom_11 rfl rfl ?_
  refine g_getR (pc' := 15) dX6_copyFrom_12 rfl f_X6_18 rfl rfl ?_
  refine g_iconst (pc' := 16) dX6_copyFrom_15 rfl ?_
  refine g_aload_n (pc' := 17) 0 dX6_copyFrom_16 rfl rfl ?_
  refine g_getR (pc' := 20) dX6_copyFrom_17 rfl f_X6_18 rfl rfl ?_
  refine g_iconst (pc' := 21) dX6_copyFrom_20 rfl ?_
  refine g_iconst (pc' := 22) dX6_copyFrom_21 rfl ?_
  refine g_copyI (pc' := 25) (sp := 0) (dp := 0) (n := 3) dX6_copyFrom_22 rfl m_X6_32 mn_copy ms_copy mi_Sys rfl rfl (by decide) (by decide) (by decide) (Nat.le_of_ble_eq_true rfl) (fun M3 hM3 => ?_)
  have iM3 : IC M3 := IC.cp iM2 hM3 (by unfold free isT; omega)
  have fM3 : Fr (fun c => 19 ≤ c ∧ c ≤ 27) M M3 := Fr.cp fM2 hM3 (by first | decide | omega | (dsimp only; omega))
  have q1_2_M3 : (M3 1 2 = M 1 2) := (congrFun (show M3 1 = M2 1 by rw [hM3]; exact mcp_cell _ (by first | decide | omega)) 2).trans q1_2_M2
  have q1_4_M3 : (M3 1 4 = M 1 4) := (congrFun (show M3 1 = M2 1 by rw [hM3]; exact mcp_cell _ (by first | decide | omega)) 4).trans q1_4_M2
  have q1_6_M3 : (M3 1 6 = M 1 6) := (congrFun (show M3 1 = M2 1 by rw [hM3]; exact mcp_cell _ (by first | decide | omega)) 6).trans q1_6_M2
  have xM3_20_5 : M3 20 5 = M 2 5 := (show M3 20 5 = M2 20 5 by rw [hM3]; exact congrFun (mcp_cell _ (by first | decide | omega)) 5).trans gM20
  refine g_aload_n (pc' := 26) 1 dX6_copyFrom_25 rfl rfl ?_
  refine g_getR (pc' := 29) dX6_copyFrom_26 rfl f_X6_22 rfl rfl ?_
  refine g_iconst (pc' := 30) dX6_copyFrom_29 rfl ?_
  refine g_aload_n (pc' := 31) 0 dX6_copyFrom_30 rfl rfl ?_
  refine g_getR (pc' := 34) dX6_copyFrom_31 rfl f_X6_22 rfl rfl ?_
  refine g_iconst (pc' := 35) dX6_copyFrom_34 rfl ?_
  refine g_bipush (pc' := 37) (v := 18) dX6_copyFrom_35 rfl (by decide) ?_
  refine g_copyI (pc' := 40) (sp := 0) (dp := 0) (n := 18) dX6_copyFrom_37 rfl m_X6_32 mn_copy ms_copy mi_Sys rfl rfl (by decide) (by decide) (by decide) (Nat.le_of_ble_eq_true rfl) (fun M4 hM4 => ?_)
  have iM4 : IC M4 := IC.cp iM3 hM4 (by unfold free isT; omega)
  have fM4 : Fr (fun c => 19 ≤ c ∧ c ≤ 27) M M4 := Fr.cp fM3 hM4 (by first | decide | omega | (dsimp only; omega))
  have q1_2_M4 : (M4 1 2 = M 1 2) := (congrFun (show M4 1 = M3 1 by rw [hM4]; exact mcp_cell _ (by first | decide | omega)) 2).trans q1_2_M3
  have q1_4_M4 : (M4 1 4 = M 1 4) := (congrFun (show M4 1 = M3 1 by rw [hM4]; exact mcp_cell _ (by first | decide | omega)) 4).trans q1_4_M3
  have q1_6_M4 : (M4 1 6 = M 1 6) := (congrFun (show M4 1 = M3 1 by rw [hM4]; exact mcp_cell _ (by first | decide | omega)) 6).trans q1_6_M3
  have xM4_20_5 : M4 20 5 = M 2 5 := (show M4 20 5 = M3 20 5 by rw [hM4]; exact congrFun (mcp_cell _ (by first | decide | omega)) 5).trans xM3_20_5
  refine g_aload_n (pc' := 41) 1 dX6_copyFrom_40 rfl rfl ?_
  refine g_getR (pc' := 44) dX6_copyFrom_41 rfl f_X6_25 rfl rfl ?_
  refine g_iconst (pc' := 45) dX6_copyFrom_44 rfl ?_
  refine g_aload_n (pc' := 46) 0 dX6_copyFrom_45 rfl rfl ?_
  refine g_getR (pc' := 49) dX6_copyFrom_46 rfl f_X6_25 rfl rfl ?_
  refine g_iconst (pc' := 50) dX6_copyFrom_49 rfl ?_
  refine g_bipush (pc' := 52) (v := 18) dX6_copyFrom_50 rfl (by decide) ?_
  refine g_copyI (pc' := 55) (sp := 0) (dp := 0) (n := 18) dX6_copyFrom_52 rfl m_X6_32 mn_copy ms_copy mi_Sys rfl rfl (by decide) (by decide) (by decide) (Nat.le_of_ble_eq_true rfl) (fun M5 hM5 => ?_)
  have iM5 : IC M5 := IC.cp iM4 hM5 (by unfold free isT; omega)
  have fM5 : Fr (fun c => 19 ≤ c ∧ c ≤ 27) M M5 := Fr.cp fM4 hM5 (by first | decide | omega | (dsimp only; omega))
  have q1_2_M5 : (M5 1 2 = M 1 2) := (congrFun (show M5 1 = M4 1 by rw [hM5]; exact mcp_cell _ (by first | decide | omega)) 2).trans q1_2_M4
  have q1_4_M5 : (M5 1 4 = M 1 4) := (congrFun (show M5 1 = M4 1 by rw [hM5]; exact mcp_cell _ (by first | decide | omega)) 4).trans q1_4_M4
  have q1_6_M5 : (M5 1 6 = M 1 6) := (congrFun (show M5 1 = M4 1 by rw [hM5]; exact mcp_cell _ (by first | decide | omega)) 6).trans q1_6_M4
  have xM5_20_5 : M5 20 5 = M 2 5 := (show M5 20 5 = M4 20 5 by rw [hM5]; exact congrFun (mcp_cell _ (by first | decide | omega)) 5).trans xM4_20_5
  refine g_aload_n (pc' := 56) 0 dX6_copyFrom_55 rfl rfl ?_
  refine g_aload_n (pc' := 57) 1 dX6_copyFrom_56 rfl rfl ?_
  refine g_getI (pc' := 60) dX6_copyFrom_57 rfl f_X6_38 rfl rfl (fun v6 ev6 rv6 => ?_)
  have bv6 : 0 ≤ v6 ∧ v6 ≤ 3 := by rw [ev6]; exact iM5.2.1.1.1
  have av6 : v6 = M 1 2 := ev6.trans q1_2_M5
  refine g_putI (pc' := 63) dX6_copyFrom_60 rfl p_X6_38 rfl rfl rv6 (fun M7 hM7 => ?_)
  have iM7 : IC M7 := IC.wr iM5 hM7 (by unfold okw isT; first | decide | omega)
  have fM7 : Fr (fun c => 19 ≤ c ∧ c ≤ 27) M M7 := Fr.wr fM5 hM7 (by first | decide | omega | (dsimp only; omega))
  have q1_2_M7 : (M7 1 2 = M 1 2) := (show M7 1 2 = M5 1 2 by rw [hM7]; exact mu_ne _ _ (by first | decide | omega)).trans q1_2_M5
  have q1_4_M7 : (M7 1 4 = M 1 4) := (show M7 1 4 = M5 1 4 by rw [hM7]; exact mu_ne _ _ (by first | decide | omega)).trans q1_4_M5
  have q1_6_M7 : (M7 1 6 = M 1 6) := (show M7 1 6 = M5 1 6 by rw [hM7]; exact mu_ne _ _ (by first | decide | omega)).trans q1_6_M5
  have xM7_20_5 : M7 20 5 = M 2 5 := (show M7 20 5 = M5 20 5 by rw [hM7]; exact mu_ne _ _ (by first | decide | omega)).trans xM5_20_5
  have xM7_19_2 : M7 19 2 = v6 := by rw [hM7]; exact mu_at _ _ _ _
  refine g_aload_n (pc' := 64) 0 dX6_copyFrom_63 rfl rfl ?_
  refine g_aload_n (pc' := 65) 1 dX6_copyFrom_64 rfl rfl ?_
  refine g_getI (pc' := 68) dX6_copyFrom_65 rfl f_X6_42 rfl rfl (fun v8 ev8 rv8 => ?_)
  have bv8 : 0 ≤ v8 ∧ v8 ≤ 6 := by rw [ev8]; exact iM7.2.1.1.2.1
  have av8 : v8 = M 1 4 := ev8.trans q1_4_M7
  refine g_putI (pc' := 71) dX6_copyFrom_68 rfl p_X6_42 rfl rfl rv8 (fun M9 hM9 => ?_)
  have iM9 : IC M9 := IC.wr iM7 hM9 (by unfold okw isT; first | decide | omega)
  have fM9 : Fr (fun c => 19 ≤ c ∧ c ≤ 27) M M9 := Fr.wr fM7 hM9 (by first | decide | omega | (dsimp only; omega))
  have q1_2_M9 : (M9 1 2 = M 1 2) := (show M9 1 2 = M7 1 2 by rw [hM9]; exact mu_ne _ _ (by first | decide | omega)).trans q1_2_M7
  have q1_4_M9 : (M9 1 4 = M 1 4) := (show M9 1 4 = M7 1 4 by rw [hM9]; exact mu_ne _ _ (by first | decide | omega)).trans q1_4_M7
  have q1_6_M9 : (M9 1 6 = M 1 6) := (show M9 1 6 = M7 1 6 by rw [hM9]; exact mu_ne _ _ (by first | decide | omega)).trans q1_6_M7
  have xM9_20_5 : M9 20 5 = M 2 5 := (show M9 20 5 = M7 20 5 by rw [hM9]; exact mu_ne _ _ (by first | decide | omega)).trans xM7_20_5
  have xM9_19_2 : M9 19 2 = v6 := (show M9 19 2 = M7 19 2 by rw [hM9]; exact mu_ne _ _ (by first | decide | omega)).trans xM7_19_2
  have xM9_19_4 : M9 19 4 = v8 := by rw [hM9]; exact mu_at _ _ _ _
  refine g_aload_n (pc' := 72) 0 dX6_copyFrom_71 rfl rfl ?_
  refine g_aload_n (pc' := 73) 1 dX6_copyFrom_72 rfl rfl ?_
  refine g_getI (pc' := 76) dX6_copyFrom_73 rfl f_X6_45 rfl rfl (fun v10 ev10 rv10 => ?_)
  have bv10 : 0 ≤ v10 ∧ v10 ≤ 6 := by rw [ev10]; exact iM9.2.1.1.2.2
  have av10 : v10 = M 1 6 := ev10.trans q1_6_M9
  refine g_putI (pc' := 79) dX6_copyFrom_76 rfl p_X6_45 rfl rfl rv10 (fun M11 hM11 => ?_)
  have iM11 : IC M11 := IC.wr iM9 hM11 (by unfold okw isT; first | decide | omega)
  have fM11 : Fr (fun c => 19 ≤ c ∧ c ≤ 27) M M11 := Fr.wr fM9 hM11 (by first | decide | omega | (dsimp only; omega))
  have q1_2_M11 : (M11 1 2 = M 1 2) := (show M11 1 2 = M9 1 2 by rw [hM11]; exact mu_ne _ _ (by first | decide | omega)).trans q1_2_M9
  have q1_4_M11 : (M11 1 4 = M 1 4) := (show M11 1 4 = M9 1 4 by rw [hM11]; exact mu_ne _ _ (by first | decide | omega)).trans q1_4_M9
  have q1_6_M11 : (M11 1 6 = M 1 6) := (show M11 1 6 = M9 1 6 by rw [hM11]; exact mu_ne _ _ (by first | decide | omega)).trans q1_6_M9
  have xM11_20_5 : M11 20 5 = M 2 5 := (show M11 20 5 = M9 20 5 by rw [hM11]; exact mu_ne _ _ (by first | decide | omega)).trans xM9_20_5
  have xM11_19_2 : M11 19 2 = v6 := (show M11 19 2 = M9 19 2 by rw [hM11]; exact mu_ne _ _ (by first | decide | omega)).trans xM9_19_2
  have xM11_19_4 : M11 19 4 = v8 := (show M11 19 4 = M9 19 4 by rw [hM11]; exact mu_ne _ _ (by first | decide | omega)).trans xM9_19_4
  have xM11_19_6 : M11 19 6 = v10 := by rw [hM11]; exact mu_at _ _ _ _
  refine g_vreturn dX6_copyFrom_79 ?_
  exact ⟨iM11, fM11, by omega⟩
set_option maxHeartbeats 4000000 in
set_option maxRecDepth 100000 in
theorem c_X6_copyFrom_1_10 (X : Cx) (M : Mm) (hi : IC M) : Con X 2 yX6_copyFrom cX6_copyFrom 2 none [vr X 1, vr X 10] M (Qv (fun M1 => IC M1 ∧ Fr (fun c => 1 ≤ c ∧ c ≤ 9) M M1 ∧ (M1 2 5 = M 11 5 ∧ M1 1 2 = M 10 2 ∧ M1 1 4 = M 10 4 ∧ M1 1 6 = M 10 6))) := by
  refine Con.ofG rfl (Nat.le_of_ble_eq_true rfl) ?_
  show G X 2 RX6 cX6_copyFrom 2 none (Qv (fun M1 => IC M1 ∧ Fr (fun c => 1 ≤ c ∧ c ≤ 9) M M1 ∧ (M1 2 5 = M 11 5 ∧ M1 1 2 = M 10 2 ∧ M1 1 4 = M 10 4 ∧ M1 1 6 = M 10 6))) 0 [(0, vr X 1), (1, vr X 10)] [] M
  refine g_aload_n (pc' := 1) 0 dX6_copyFrom_0 rfl rfl ?_
  refine g_getR (pc' := 4) dX6_copyFrom_1 rfl f_X6_12 rfl rfl ?_
  refine g_aload_n (pc' := 5) 1 dX6_copyFrom_4 rfl rfl ?_
  refine g_getR (pc' := 8) dX6_copyFrom_5 rfl f_X6_12 rfl rfl ?_
  refine g_callVv (pc' := 11) (As := [vr X 11]) (b := 2) (S := []) dX6_copyFrom_8 rfl m_X6_28 w_X7_copyFrom (c_X7_copyFrom X M 2 isT_2 (hi.1 _ isT_2) 11 isT_11 (hi.1 _ isT_11) (by decide) (isT.apart isT_2 isT_11 (by decide))) rfl ⟨_, _, _, rfl, rfl, rfl⟩ (by decide) (by decide) rfl (Nat.le_of_ble_eq_true rfl) (fun M2 q1 => ?_)
  obtain ⟨kM2, fM20, gM20⟩ := q1
  have iM2 : IC M2 := IC.ofT hi isT_2 fM20 kM2
  have fM2 : Fr (fun c => 1 ≤ c ∧ c ≤ 9) M M2 := Fr.tr Fr.rf fM20 (fun c z => by unfold inT at z; first | omega | (dsimp only; omega))
  have q10_2_M2 : (M2 10 2 = M 10 2) := (congrFun (fM20 10 (by unfold inT; first | decide | omega)) 2)
  have q10_4_M2 : (M2 10 4 = M 10 4) := (congrFun (fM20 10 (by unfold inT; first | decide | omega)) 4)
  have q10_6_M2 : (M2 10 6 = M 10 6) := (congrFun (fM20 10 (by unfold inT; first | decide | omega)) 6)
  refine g_aload_n (pc' := 12) 1 dX6_copyFrom_11 rfl rfl ?_
  refine g_getR (pc' := 15) dX6_copyFrom_12 rfl f_X6_18 rfl rfl ?_
  refine g_iconst (pc' := 16) dX6_copyFrom_15 rfl ?_
  refine g_aload_n (pc' := 17) 0 dX6_copyFrom_16 rfl rfl ?_
  refine g_getR (pc' := 20) dX6_copyFrom_17 rfl f_X6_18 rfl rfl ?_
  refine g_iconst (pc' := 21) dX6_copyFrom_20 rfl ?_
  refine g_iconst (pc' := 22) dX6_copyFrom_21 rfl ?_
  refine g_copyI (pc' := 25) (sp := 0) (dp := 0) (n := 3) dX6_copyFrom_22 rfl m_X6_32 mn_copy ms_copy mi_Sys rfl rfl (by decide) (by decide) (by decide) (Nat.le_of_ble_eq_true rfl) (fun M3 hM3 => ?_)
  have iM3 : IC M3 := IC.cp iM2 hM3 (by unfold free isT; omega)
  have fM3 : Fr (fun c => 1 ≤ c ∧ c ≤ 9) M M3 := Fr.cp fM2 hM3 (by first | decide | omega | (dsimp only; omega))
  have q10_2_M3 : (M3 10 2 = M 10 2) := (congrFun (show M3 10 = M2 10 by rw [hM3]; exact mcp_cell _ (by first | decide | omega)) 2).trans q10_2_M2
  have q10_4_M3 : (M3 10 4 = M 10 4) := (congrFun (show M3 10 = M2 10 by rw [hM3]; exact mcp_cell _ (by first | decide | omega)) 4).trans q10_4_M2
  have q10_6_M3 : (M3 10 6 = M 10 6) := (congrFun (show M3 10 = M2 10 by rw [hM3]; exact mcp_cell _ (by first | decide | omega)) 6).trans q10_6_M2
  have xM3_2_5 : M3 2 5 = M 11 5 := (show M3 2 5 = M2 2 5 by rw [hM3]; exact congrFun (mcp_cell _ (by first | decide | omega)) 5).trans gM20
  refine g_aload_n (pc' := 26) 1 dX6_copyFrom_25 rfl rfl ?_
  refine g_getR (pc' := 29) dX6_copyFrom_26 rfl f_X6_22 rfl rfl ?_
  refine g_iconst (pc' := 30) dX6_copyFrom_29 rfl ?_
  refine g_aload_n (pc' := 31) 0 dX6_copyFrom_30 rfl rfl ?_
  refine g_getR (pc' := 34) dX6_copyFrom_31 rfl f_X6_22 rfl rfl ?_
  refine g_iconst (pc' := 35) dX6_copyFrom_34 rfl ?_
  refine g_bipush (pc' := 37) (v := 18) dX6_copyFrom_35 rfl (by decide) ?_
  refine g_copyI (pc' := 40) (sp := 0) (dp := 0) (n := 18) dX6_copyFrom_37 rfl m_X6_32 mn_copy ms_copy mi_Sys rfl rfl (by decide) (by decide) (by decide) (Nat.le_of_ble_eq_true rfl) (fun M4 hM4 => ?_)
  have iM4 : IC M4 := IC.cp iM3 hM4 (by unfold free isT; omega)
  have fM4 : Fr (fun c => 1 ≤ c ∧ c ≤ 9) M M4 := Fr.cp fM3 hM4 (by first | decide | omega | (dsimp only; omega))
  have q10_2_M4 : (M4 10 2 = M 10 2) := (congrFun (show M4 10 = M3 10 by rw [hM4]; exact mcp_cell _ (by first | decide | omega)) 2).trans q10_2_M3
  have q10_4_M4 : (M4 10 4 = M 10 4) := (congrFun (show M4 10 = M3 10 by rw [hM4]; exact mcp_cell _ (by first | decide | omega)) 4).trans q10_4_M3
  have q10_6_M4 : (M4 10 6 = M 10 6) := (congrFun (show M4 10 = M3 10 by rw [hM4]; exact mcp_cell _ (by first | decide | omega)) 6).trans q10_6_M3
  have xM4_2_5 : M4 2 5 = M 11 5 := (show M4 2 5 = M3 2 5 by rw [hM4]; exact congrFun (mcp_cell _ (by first | decide | omega)) 5).trans xM3_2_5
  refine g_aload_n (pc' := 41) 1 dX6_copyFrom_40 rfl rfl ?_
  refine g_getR (pc' := 44) dX6_copyFrom_41 rfl f_X6_25 rfl rfl ?_
  refine g_iconst (pc' := 45) dX6_copyFrom_44 rfl ?_
  refine g_aload_n (pc' := 46) 0 dX6_copyFrom_45 rfl rfl ?_
  refine g_getR (pc' := 49) dX6_copyFrom_46 rfl f_X6_25 rfl rfl ?_
  refine g_iconst (pc' := 50) dX6_copyFrom_49 rfl ?_
  refine g_bipush (pc' := 52) (v := 18) dX6_copyFrom_50 rfl (by decide) ?_
  refine g_copyI (pc' := 55) (sp := 0) (dp := 0) (n := 18) dX6_copyFrom_52 rfl m_X6_32 mn_copy ms_copy mi_Sys rfl rfl (by decide) (by decide) (by decide) (Nat.le_of_ble_eq_true rfl) (fun M5 hM5 => ?_)
  have iM5 : IC M5 := IC.cp iM4 hM5 (by unfold free isT; omega)
  have fM5 : Fr (fun c => 1 ≤ c ∧ c ≤ 9) M M5 := Fr.cp fM4 hM5 (by first | decide | omega | (dsimp only; omega))
  have q10_2_M5 : (M5 10 2 = M 10 2) := (congrFun (show M5 10 = M4 10 by rw [hM5]; exact mcp_cell _ (by first | decide | omega)) 2).trans q10_2_M4
  have q10_4_M5 : (M5 10 4 = M 10 4) := (congrFun (show M5 10 = M4 10 by rw [hM5]; exact mcp_cell _ (by first | decide | omega)) 4).trans q10_4_M4
  have q10_6_M5 : (M5 10 6 = M 10 6) := (congrFun (show M5 10 = M4 10 by rw [hM5]; exact mcp_cell _ (by first | decide | omega)) 6).trans q10_6_M4
  have xM5_2_5 : M5 2 5 = M 11 5 := (show M5 2 5 = M4 2 5 by rw [hM5]; exact congrFun (mcp_cell _ (by first | decide | omega)) 5).trans xM4_2_5
  refine g_aload_n (pc' := 56) 0 dX6_copyFrom_55 rfl rfl ?_
  refine g_aload_n (pc' := 57) 1 dX6_copyFrom_56 rfl rfl ?_
  refine g_getI (pc' := 60) dX6_copyFrom_57 rfl f_X6_38 rfl rfl (fun v6 ev6 rv6 => ?_)
  have bv6 : 0 ≤ v6 ∧ v6 ≤ 3 := by rw [ev6]; exact iM5.2.1.2.1.1
  have av6 : v6 = M 10 2 := ev6.trans q10_2_M5
  refine g_putI (pc' := 63) dX6_copyFrom_60 rfl p_X6_38 rfl rfl rv6 (fun M7 hM7 => ?_)
  have iM7 : IC M7 := IC.wr iM5 hM7 (by unfold okw isT; first | decide | omega)
  have fM7 : Fr (fun c => 1 ≤ c ∧ c ≤ 9) M M7 := Fr.wr fM5 hM7 (by first | decide | omega | (dsimp only; omega))
  have q10_2_M7 : (M7 10 2 = M 10 2) := (show M7 10 2 = M5 10 2 by rw [hM7]; exact mu_ne _ _ (by first | decide | omega)).trans q10_2_M5
  have q10_4_M7 : (M7 10 4 = M 10 4) := (show M7 10 4 = M5 10 4 by rw [hM7]; exact mu_ne _ _ (by first | decide | omega)).trans q10_4_M5
  have q10_6_M7 : (M7 10 6 = M 10 6) := (show M7 10 6 = M5 10 6 by rw [hM7]; exact mu_ne _ _ (by first | decide | omega)).trans q10_6_M5
  have xM7_2_5 : M7 2 5 = M 11 5 := (show M7 2 5 = M5 2 5 by rw [hM7]; exact mu_ne _ _ (by first | decide | omega)).trans xM5_2_5
  have xM7_1_2 : M7 1 2 = v6 := by rw [hM7]; exact mu_at _ _ _ _
  refine g_aload_n (pc' := 64) 0 dX6_copyFrom_63 rfl rfl ?_
  refine g_aload_n (pc' := 65) 1 dX6_copyFrom_64 rfl rfl ?_
  refine g_getI (pc' := 68) dX6_copyFrom_65 rfl f_X6_42 rfl rfl (fun v8 ev8 rv8 => ?_)
  have bv8 : 0 ≤ v8 ∧ v8 ≤ 6 := by rw [ev8]; exact iM7.2.1.2.1.2.1
  have av8 : v8 = M 10 4 := ev8.trans q10_4_M7
  refine g_putI (pc' := 71) dX6_copyFrom_68 rfl p_X6_42 rfl rfl rv8 (fun M9 hM9 => ?_)
  have iM9 : IC M9 := IC.wr iM7 hM9 (by unfold okw isT; first | decide | omega)
  have fM9 : Fr (fun c => 1 ≤ c ∧ c ≤ 9) M M9 := Fr.wr fM7 hM9 (by first | decide | omega | (dsimp only; omega))
  have q10_2_M9 : (M9 10 2 = M 10 2) := (show M9 10 2 = M7 10 2 by rw [hM9]; exact mu_ne _ _ (by first | decide | omega)).trans q10_2_M7
  have q10_4_M9 : (M9 10 4 = M 10 4) := (show M9 10 4 = M7 10 4 by rw [hM9]; exact mu_ne _ _ (by first | decide | omega)).trans q10_4_M7
  have q10_6_M9 : (M9 10 6 = M 10 6) := (show M9 10 6 = M7 10 6 by rw [hM9]; exact mu_ne _ _ (by first | decide | omega)).trans q10_6_M7
  have xM9_2_5 : M9 2 5 = M 11 5 := (show M9 2 5 = M7 2 5 by rw [hM9]; exact mu_ne _ _ (by first | decide | omega)).trans xM7_2_5
  have xM9_1_2 : M9 1 2 = v6 := (show M9 1 2 = M7 1 2 by rw [hM9]; exact mu_ne _ _ (by first | decide | omega)).trans xM7_1_2
  have xM9_1_4 : M9 1 4 = v8 := by rw [hM9]; exact mu_at _ _ _ _
  refine g_aload_n (pc' := 72) 0 dX6_copyFrom_71 rfl rfl ?_
  refine g_aload_n (pc' := 73) 1 dX6_copyFrom_72 rfl rfl ?_
  refine g_getI (pc' := 76) dX6_copyFrom_73 rfl f_X6_45 rfl rfl (fun v10 ev10 rv10 => ?_)
  have bv10 : 0 ≤ v10 ∧ v10 ≤ 6 := by rw [ev10]; exact iM9.2.1.2.1.2.2
  have av10 : v10 = M 10 6 := ev10.trans q10_6_M9
  refine g_putI (pc' := 79) dX6_copyFrom_76 rfl p_X6_45 rfl rfl rv10 (fun M11 hM11 => ?_)
  have iM11 : IC M11 := IC.wr iM9 hM11 (by unfold okw isT; first | decide | omega)
  have fM11 : Fr (fun c => 1 ≤ c ∧ c ≤ 9) M M11 := Fr.wr fM9 hM11 (by first | decide | omega | (dsimp only; omega))
  have q10_2_M11 : (M11 10 2 = M 10 2) := (show M11 10 2 = M9 10 2 by rw [hM11]; exact mu_ne _ _ (by first | decide | omega)).trans q10_2_M9
  have q10_4_M11 : (M11 10 4 = M 10 4) := (show M11 10 4 = M9 10 4 by rw [hM11]; exact mu_ne _ _ (by first | decide | omega)).trans q10_4_M9
  have q10_6_M11 : (M11 10 6 = M 10 6) := (show M11 10 6 = M9 10 6 by rw [hM11]; exact mu_ne _ _ (by first | decide | omega)).trans q10_6_M9
  have xM11_2_5 : M11 2 5 = M 11 5 := (show M11 2 5 = M9 2 5 by rw [hM11]; exact mu_ne _ _ (by first | decide | omega)).trans xM9_2_5
  have xM11_1_2 : M11 1 2 = v6 := (show M11 1 2 = M9 1 2 by rw [hM11]; exact mu_ne _ _ (by first | decide | omega)).trans xM9_1_2
  have xM11_1_4 : M11 1 4 = v8 := (show M11 1 4 = M9 1 4 by rw [hM11]; exact mu_ne _ _ (by first | decide | omega)).trans xM9_1_4
  have xM11_1_6 : M11 1 6 = v10 := by rw [hM11]; exact mu_at _ _ _ _
  refine g_vreturn dX6_copyFrom_79 ?_
  exact ⟨iM11, fM11, by omega⟩
set_option maxHeartbeats 4000000 in
set_option maxRecDepth 100000 in
theorem c_X6_copyFrom_1_19 (X : Cx) (M : Mm) (hi : IC M) : Con X 2 yX6_copyFrom cX6_copyFrom 2 none [vr X 1, vr X 19] M (Qv (fun M1 => IC M1 ∧ Fr (fun c => 1 ≤ c ∧ c ≤ 9) M M1 ∧ (M1 2 5 = M 20 5 ∧ M1 1 2 = M 19 2 ∧ M1 1 4 = M 19 4 ∧ M1 1 6 = M 19 6))) := by
  refine Con.ofG rfl (Nat.le_of_ble_eq_true rfl) ?_
  show G X 2 RX6 cX6_copyFrom 2 none (Qv (fun M1 => IC M1 ∧ Fr (fun c => 1 ≤ c ∧ c ≤ 9) M M1 ∧ (M1 2 5 = M 20 5 ∧ M1 1 2 = M 19 2 ∧ M1 1 4 = M 19 4 ∧ M1 1 6 = M 19 6))) 0 [(0, vr X 1), (1, vr X 19)] [] M
  refine g_aload_n (pc' := 1) 0 dX6_copyFrom_0 rfl rfl ?_
  refine g_getR (pc' := 4) dX6_copyFrom_1 rfl f_X6_12 rfl rfl ?_
  refine g_aload_n (pc' := 5) 1 dX6_copyFrom_4 rfl rfl ?_
  refine g_getR (pc' := 8) dX6_copyFrom_5 rfl f_X6_12 rfl rfl ?_
  refine g_callVv (pc' := 11) (As := [vr X 20]) (b := 2) (S := []) dX6_copyFrom_8 rfl m_X6_28 w_X7_copyFrom (c_X7_copyFrom X M 2 isT_2 (hi.1 _ isT_2) 20 isT_20 (hi.1 _ isT_20) (by decide) (isT.apart isT_2 isT_20 (by decide))) rfl ⟨_, _, _, rfl, rfl, rfl⟩ (by decide) (by decide) rfl (Nat.le_of_ble_eq_true rfl) (fun M2 q1 => ?_)
  obtain ⟨kM2, fM20, gM20⟩ := q1
  have iM2 : IC M2 := IC.ofT hi isT_2 fM20 kM2
  have fM2 : Fr (fun c => 1 ≤ c ∧ c ≤ 9) M M2 := Fr.tr Fr.rf fM20 (fun c z => by unfold inT at z; first | omega | (dsimp only; omega))
  have q19_2_M2 : (M2 19 2 = M 19 2) := (congrFun (fM20 19 (by unfold inT; first | decide | omega)) 2)
  have q19_4_M2 : (M2 19 4 = M 19 4) := (congrFun (fM20 19 (by unfold inT; first | decide | omega)) 4)
  have q19_6_M2 : (M2 19 6 = M 19 6) := (congrFun (fM20 19 (by unfold inT; first | decide | omega)) 6)
  refine g_aload_n (pc' := 12) 1 dX6_copyFrom_11 rfl rfl ?_
  refine g_getR (pc' := 15) dX6_copyFrom_12 rfl f_X6_18 rfl rfl ?_
  refine g_iconst (pc' := 16) dX6_copyFrom_15 rfl ?_
  refine g_aload_n (pc' := 17) 0 dX6_copyFrom_16 rfl rfl ?_
  refine g_getR (pc' := 20) dX6_copyFrom_17 rfl f_X6_18 rfl rfl ?_
  refine g_iconst (pc' := 21) dX6_copyFrom_20 rfl ?_
  refine g_iconst (pc' := 22) dX6_copyFrom_21 rfl ?_
  refine g_copyI (pc' := 25) (sp := 0) (dp := 0) (n := 3) dX6_copyFrom_22 rfl m_X6_32 mn_copy ms_copy mi_Sys rfl rfl (by decide) (by decide) (by decide) (Nat.le_of_ble_eq_true rfl) (fun M3 hM3 => ?_)
  have iM3 : IC M3 := IC.cp iM2 hM3 (by unfold free isT; omega)
  have fM3 : Fr (fun c => 1 ≤ c ∧ c ≤ 9) M M3 := Fr.cp fM2 hM3 (by first | decide | omega | (dsimp only; omega))
  have q19_2_M3 : (M3 19 2 = M 19 2) := (congrFun (show M3 19 = M2 19 by rw [hM3]; exact mcp_cell _ (by first | decide | omega)) 2).trans q19_2_M2
  have q19_4_M3 : (M3 19 4 = M 19 4) := (congrFun (show M3 19 = M2 19 by rw [hM3]; exact mcp_cell _ (by first | decide | omega)) 4).trans q19_4_M2
  have q19_6_M3 : (M3 19 6 = M 19 6) := (congrFun (show M3 19 = M2 19 by rw [hM3]; exact mcp_cell _ (by first | decide | omega)) 6).trans q19_6_M2
  have xM3_2_5 : M3 2 5 = M 20 5 := (show M3 2 5 = M2 2 5 by rw [hM3]; exact congrFun (mcp_cell _ (by first | decide | omega)) 5).trans gM20
  refine g_aload_n (pc' := 26) 1 dX6_copyFrom_25 rfl rfl ?_
  refine g_getR (pc' := 29) dX6_copyFrom_26 rfl f_X6_22 rfl rfl ?_
  refine g_iconst (pc' := 30) dX6_copyFrom_29 rfl ?_
  refine g_aload_n (pc' := 31) 0 dX6_copyFrom_30 rfl rfl ?_
  refine g_getR (pc' := 34) dX6_copyFrom_31 rfl f_X6_22 rfl rfl ?_
  refine g_iconst (pc' := 35) dX6_copyFrom_34 rfl ?_
  refine g_bipush (pc' := 37) (v := 18) dX6_copyFrom_35 rfl (by decide) ?_
  refine g_copyI (pc' := 40) (sp := 0) (dp := 0) (n := 18) dX6_copyFrom_37 rfl m_X6_32 mn_copy ms_copy mi_Sys rfl rfl (by decide) (by decide) (by decide) (Nat.le_of_ble_eq_true rfl) (fun M4 hM4 => ?_)
  have iM4 : IC M4 := IC.cp iM3 hM4 (by unfold free isT; omega)
  have fM4 : Fr (fun c => 1 ≤ c ∧ c ≤ 9) M M4 := Fr.cp fM3 hM4 (by first | decide | omega | (dsimp only; omega))
  have q19_2_M4 : (M4 19 2 = M 19 2) := (congrFun (show M4 19 = M3 19 by rw [hM4]; exact mcp_cell _ (by first | decide | omega)) 2).trans q19_2_M3
  have q19_4_M4 : (M4 19 4 = M 19 4) := (congrFun (show M4 19 = M3 19 by rw [hM4]; exact mcp_cell _ (by first | decide | omega)) 4).trans q19_4_M3
  have q19_6_M4 : (M4 19 6 = M 19 6) := (congrFun (show M4 19 = M3 19 by rw [hM4]; exact mcp_cell _ (by first | decide | omega)) 6).trans q19_6_M3
  have xM4_2_5 : M4 2 5 = M 20 5 := (show M4 2 5 = M3 2 5 by rw [hM4]; exact congrFun (mcp_cell _ (by first | decide | omega)) 5).trans xM3_2_5
  refine g_aload_n (pc' := 41) 1 dX6_copyFrom_40 rfl rfl ?_
  refine g_getR (pc' := 44) dX6_copyFrom_41 rfl f_X6_25 rfl rfl ?_
  refine g_iconst (pc' := 45) dX6_copyFrom_44 rfl ?_
  refine g_aload_n (pc' := 46) 0 dX6_copyFrom_45 rfl rfl ?_
  refine g_getR (pc' := 49) dX6_copyFrom_46 rfl f_X6_25 rfl rfl ?_
  refine g_iconst (pc' := 50) dX6_copyFrom_49 rfl ?_
  refine g_bipush (pc' := 52) (v := 18) dX6_copyFrom_50 rfl (by decide) ?_
  refine g_copyI (pc' := 55) (sp := 0) (dp := 0) (n := 18) dX6_copyFrom_52 rfl m_X6_32 mn_copy ms_copy mi_Sys rfl rfl (by decide) (by decide) (by decide) (Nat.le_of_ble_eq_true rfl) (fun M5 hM5 => ?_)
  have iM5 : IC M5 := IC.cp iM4 hM5 (by unfold free isT; omega)
  have fM5 : Fr (fun c => 1 ≤ c ∧ c ≤ 9) M M5 := Fr.cp fM4 hM5 (by first | decide | omega | (dsimp only; omega))
  have q19_2_M5 : (M5 19 2 = M 19 2) := (congrFun (show M5 19 = M4 19 by rw [hM5]; exact mcp_cell _ (by first | decide | omega)) 2).trans q19_2_M4
  have q19_4_M5 : (M5 19 4 = M 19 4) := (congrFun (show M5 19 = M4 19 by rw [hM5]; exact mcp_cell _ (by first | decide | omega)) 4).trans q19_4_M4
  have q19_6_M5 : (M5 19 6 = M 19 6) := (congrFun (show M5 19 = M4 19 by rw [hM5]; exact mcp_cell _ (by first | decide | omega)) 6).trans q19_6_M4
  have xM5_2_5 : M5 2 5 = M 20 5 := (show M5 2 5 = M4 2 5 by rw [hM5]; exact congrFun (mcp_cell _ (by first | decide | omega)) 5).trans xM4_2_5
  refine g_aload_n (pc' := 56) 0 dX6_copyFrom_55 rfl rfl ?_
  refine g_aload_n (pc' := 57) 1 dX6_copyFrom_56 rfl rfl ?_
  refine g_getI (pc' := 60) dX6_copyFrom_57 rfl f_X6_38 rfl rfl (fun v6 ev6 rv6 => ?_)
  have bv6 : 0 ≤ v6 ∧ v6 ≤ 3 := by rw [ev6]; exact iM5.2.1.2.2.1
  have av6 : v6 = M 19 2 := ev6.trans q19_2_M5
  refine g_putI (pc' := 63) dX6_copyFrom_60 rfl p_X6_38 rfl rfl rv6 (fun M7 hM7 => ?_)
  have iM7 : IC M7 := IC.wr iM5 hM7 (by unfold okw isT; first | decide | omega)
  have fM7 : Fr (fun c => 1 ≤ c ∧ c ≤ 9) M M7 := Fr.wr fM5 hM7 (by first | decide | omega | (dsimp only; omega))
  have q19_2_M7 : (M7 19 2 = M 19 2) := (show M7 19 2 = M5 19 2 by rw [hM7]; exact mu_ne _ _ (by first | decide | omega)).trans q19_2_M5
  have q19_4_M7 : (M7 19 4 = M 19 4) := (show M7 19 4 = M5 19 4 by rw [hM7]; exact mu_ne _ _ (by first | decide | omega)).trans q19_4_M5
  have q19_6_M7 : (M7 19 6 = M 19 6) := (show M7 19 6 = M5 19 6 by rw [hM7]; exact mu_ne _ _ (by first | decide | omega)).trans q19_6_M5
  have xM7_2_5 : M7 2 5 = M 20 5 := (show M7 2 5 = M5 2 5 by rw [hM7]; exact mu_ne _ _ (by first | decide | omega)).trans xM5_2_5
  have xM7_1_2 : M7 1 2 = v6 := by rw [hM7]; exact mu_at _ _ _ _
  refine g_aload_n (pc' := 64) 0 dX6_copyFrom_63 rfl rfl ?_
  refine g_aload_n (pc' := 65) 1 dX6_copyFrom_64 rfl rfl ?_
  refine g_getI (pc' := 68) dX6_copyFrom_65 rfl f_X6_42 rfl rfl (fun v8 ev8 rv8 => ?_)
  have bv8 : 0 ≤ v8 ∧ v8 ≤ 6 := by rw [ev8]; exact iM7.2.1.2.2.2.1
  have av8 : v8 = M 19 4 := ev8.trans q19_4_M7
  refine g_putI (pc' := 71) dX6_copyFrom_68 rfl p_X6_42 rfl rfl rv8 (fun M9 hM9 => ?_)
  have iM9 : IC M9 := IC.wr iM7 hM9 (by unfold okw isT; first | decide | omega)
  have fM9 : Fr (fun c => 1 ≤ c ∧ c ≤ 9) M M9 := Fr.wr fM7 hM9 (by first | decide | omega | (dsimp only; omega))
  have q19_2_M9 : (M9 19 2 = M 19 2) := (show M9 19 2 = M7 19 2 by rw [hM9]; exact mu_ne _ _ (by first | decide | omega)).trans q19_2_M7
  have q19_4_M9 : (M9 19 4 = M 19 4) := (show M9 19 4 = M7 19 4 by rw [hM9]; exact mu_ne _ _ (by first | decide | omega)).trans q19_4_M7
  have q19_6_M9 : (M9 19 6 = M 19 6) := (show M9 19 6 = M7 19 6 by rw [hM9]; exact mu_ne _ _ (by first | decide | omega)).trans q19_6_M7
  have xM9_2_5 : M9 2 5 = M 20 5 := (show M9 2 5 = M7 2 5 by rw [hM9]; exact mu_ne _ _ (by first | decide | omega)).trans xM7_2_5
  have xM9_1_2 : M9 1 2 = v6 := (show M9 1 2 = M7 1 2 by rw [hM9]; exact mu_ne _ _ (by first | decide | omega)).trans xM7_1_2
  have xM9_1_4 : M9 1 4 = v8 := by rw [hM9]; exact mu_at _ _ _ _
  refine g_aload_n (pc' := 72) 0 dX6_copyFrom_71 rfl rfl ?_
  refine g_aload_n (pc' := 73) 1 dX6_copyFrom_72 rfl rfl ?_
  refine g_getI (pc' := 76) dX6_copyFrom_73 rfl f_X6_45 rfl rfl (fun v10 ev10 rv10 => ?_)
  have bv10 : 0 ≤ v10 ∧ v10 ≤ 6 := by rw [ev10]; exact iM9.2.1.2.2.2.2
  have av10 : v10 = M 19 6 := ev10.trans q19_6_M9
  refine g_putI (pc' := 79) dX6_copyFrom_76 rfl p_X6_45 rfl rfl rv10 (fun M11 hM11 => ?_)
  have iM11 : IC M11 := IC.wr iM9 hM11 (by unfold okw isT; first | decide | omega)
  have fM11 : Fr (fun c => 1 ≤ c ∧ c ≤ 9) M M11 := Fr.wr fM9 hM11 (by first | decide | omega | (dsimp only; omega))
  have q19_2_M11 : (M11 19 2 = M 19 2) := (show M11 19 2 = M9 19 2 by rw [hM11]; exact mu_ne _ _ (by first | decide | omega)).trans q19_2_M9
  have q19_4_M11 : (M11 19 4 = M 19 4) := (show M11 19 4 = M9 19 4 by rw [hM11]; exact mu_ne _ _ (by first | decide | omega)).trans q19_4_M9
  have q19_6_M11 : (M11 19 6 = M 19 6) := (show M11 19 6 = M9 19 6 by rw [hM11]; exact mu_ne _ _ (by first | decide | omega)).trans q19_6_M9
  have xM11_2_5 : M11 2 5 = M 20 5 := (show M11 2 5 = M9 2 5 by rw [hM11]; exact mu_ne _ _ (by first | decide | omega)).trans xM9_2_5
  have xM11_1_2 : M11 1 2 = v6 := (show M11 1 2 = M9 1 2 by rw [hM11]; exact mu_ne _ _ (by first | decide | omega)).trans xM9_1_2
  have xM11_1_4 : M11 1 4 = v8 := (show M11 1 4 = M9 1 4 by rw [hM11]; exact mu_ne _ _ (by first | decide | omega)).trans xM9_1_4
  have xM11_1_6 : M11 1 6 = v10 := by rw [hM11]; exact mu_at _ _ _ _
  refine g_vreturn dX6_copyFrom_79 ?_
  exact ⟨iM11, fM11, by omega⟩
set_option maxHeartbeats 4000000 in
set_option maxRecDepth 100000 in
theorem c_X3_combined (X : Cx) (M : Mm) (c : Int) (hc : inI c) (a : Int) (ha : inL a) (b : Int) (hb : inL b) : Con X 0 yX3_combined cX3_combined 5 (some .long) [vi c, vl a, vl b] M (Ql (fun r M1 => M1 = M ∧ (inL r))) := by
  refine Con.ofG rfl (Nat.le_of_ble_eq_true rfl) ?_
  show G X 0 RX3 cX3_combined 5 (some .long) (Ql (fun r M1 => M1 = M ∧ (inL r))) 0 [(0, vi c), (1, vl a), (3, vl b)] [] M
  refine g_iload_n (pc' := 1) 0 dX3_combined_0 rfl rfl ?_
  by_cases c1 : c = 6
  · refine g_tabIn (tgt := 40) (off := 39) hc dX3_combined_1 (by omega) (by omega) (by rw [c1]; rfl) rfl ?_
    refine g_lload_n (pc' := 41) 2 dX3_combined_40 rfl rfl ?_
    refine g_lload_n (pc' := 42) 1 dX3_combined_41 rfl rfl ?_
    refine g_ladd (pc' := 43) dX3_combined_42 rfl ?_
    refine g_nrmL (fun n2 rn2 en2 => ?_)
    refine g_lreturn dX3_combined_43 ?_
    exact ⟨rfl, by first | assumption | decide⟩
  by_cases c3 : c = 7
  · refine g_tabIn (tgt := 44) (off := 43) hc dX3_combined_1 (by omega) (by omega) (by rw [c3]; rfl) rfl ?_
    refine g_lload_n (pc' := 45) 2 dX3_combined_44 rfl rfl ?_
    refine g_lload_n (pc' := 46) 1 dX3_combined_45 rfl rfl ?_
    refine g_lsub (pc' := 47) dX3_combined_46 rfl ?_
    refine g_nrmL (fun n4 rn4 en4 => ?_)
    refine g_lreturn dX3_combined_47 ?_
    exact ⟨rfl, by first | assumption | decide⟩
  by_cases c5 : c = 8
  · refine g_tabIn (tgt := 48) (off := 47) hc dX3_combined_1 (by omega) (by omega) (by rw [c5]; rfl) rfl ?_
    refine g_lload_n (pc' := 49) 2 dX3_combined_48 rfl rfl ?_
    refine g_lload_n (pc' := 50) 1 dX3_combined_49 rfl rfl ?_
    refine g_lmul (pc' := 51) dX3_combined_50 rfl ?_
    refine g_nrmL (fun n6 rn6 en6 => ?_)
    refine g_lreturn dX3_combined_51 ?_
    exact ⟨rfl, by first | assumption | decide⟩
  by_cases c7 : c = 9
  · refine g_tabIn (tgt := 52) (off := 51) hc dX3_combined_1 (by omega) (by omega) (by rw [c7]; rfl) rfl ?_
    refine g_lload_n (pc' := 53) 1 dX3_combined_52 rfl rfl ?_
    refine g_lconst (pc' := 54) (v := 0) dX3_combined_53 rfl (by decide) ?_
    refine g_lc_ne (pc' := 58) (tgt := 64) ha (by decide) dX3_combined_54 dX3_combined_55 rfl rfl (fun c8 => ?_) (fun c8 => ?_)
    · refine g_lload_n (pc' := 65) 2 dX3_combined_64 rfl rfl ?_
      refine g_lload_n (pc' := 66) 1 dX3_combined_65 rfl rfl ?_
      refine g_ldiv (pc' := 67) hb ha (by omega) dX3_combined_66 rfl ?_
      refine g_nrmL (fun n9 rn9 en9 => ?_)
      refine g_lreturn dX3_combined_67 ?_
      exact ⟨rfl, by first | assumption | decide⟩
    · refine g_ldc2 (pc' := 61) (v := 1000000001) dX3_combined_58 rfl k_X3_142 ?_
      refine g_goto (tgt := 67) dX3_combined_61 rfl ?_
      refine g_lreturn dX3_combined_67 ?_
      exact ⟨rfl, by first | assumption | decide⟩
  by_cases c10 : c = 10
  · refine g_tabIn (tgt := 68) (off := 67) hc dX3_combined_1 (by omega) (by omega) (by rw [c10]; rfl) rfl ?_
    refine g_lload_n (pc' := 69) 2 dX3_combined_68 rfl rfl ?_
    refine g_lload_n (pc' := 70) 1 dX3_combined_69 rfl rfl ?_
    refine g_lc_ge (pc' := 74) (tgt := 78) hb ha dX3_combined_70 dX3_combined_71 rfl rfl (fun c11 => ?_) (fun c11 => ?_)
    · refine g_lconst (pc' := 79) (v := 0) dX3_combined_78 rfl (by decide) ?_
      refine g_lreturn dX3_combined_79 ?_
      exact ⟨rfl, by first | assumption | decide⟩
    · refine g_lconst (pc' := 75) (v := 1) dX3_combined_74 rfl (by decide) ?_
      refine g_goto (tgt := 79) dX3_combined_75 rfl ?_
      refine g_lreturn dX3_combined_79 ?_
      exact ⟨rfl, by first | assumption | decide⟩
  by_cases c12 : c = 11
  · refine g_tabIn (tgt := 80) (off := 79) hc dX3_combined_1 (by omega) (by omega) (by rw [c12]; rfl) rfl ?_
    refine g_lload_n (pc' := 81) 2 dX3_combined_80 rfl rfl ?_
    refine g_lload_n (pc' := 82) 1 dX3_combined_81 rfl rfl ?_
    refine g_lc_le (pc' := 86) (tgt := 90) hb ha dX3_combined_82 dX3_combined_83 rfl rfl (fun c13 => ?_) (fun c13 => ?_)
    · refine g_lconst (pc' := 91) (v := 0) dX3_combined_90 rfl (by decide) ?_
      refine g_lreturn dX3_combined_91 ?_
      exact ⟨rfl, by first | assumption | decide⟩
    · refine g_lconst (pc' := 87) (v := 1) dX3_combined_86 rfl (by decide) ?_
      refine g_goto (tgt := 91) dX3_combined_87 rfl ?_
      refine g_lreturn dX3_combined_91 ?_
      exact ⟨rfl, by first | assumption | decide⟩
  refine g_tabOut (tgt := 92) hc dX3_combined_1 (by omega) rfl ?_
  refine g_lload_n (pc' := 93) 2 dX3_combined_92 rfl rfl ?_
  refine g_lload_n (pc' := 94) 1 dX3_combined_93 rfl rfl ?_
  refine g_lc_ne (pc' := 98) (tgt := 102) hb ha dX3_combined_94 dX3_combined_95 rfl rfl (fun c15 => ?_) (fun c15 => ?_)
  · refine g_lconst (pc' := 103) (v := 0) dX3_combined_102 rfl (by decide) ?_
    refine g_lreturn dX3_combined_103 ?_
    exact ⟨rfl, by first | assumption | decide⟩
  · refine g_lconst (pc' := 99) (v := 1) dX3_combined_98 rfl (by decide) ?_
    refine g_goto (tgt := 103) dX3_combined_99 rfl ?_
    refine g_lreturn dX3_combined_103 ?_
    exact ⟨rfl, by first | assumption | decide⟩
set_option maxHeartbeats 4000000 in
set_option maxRecDepth 100000 in
theorem c_X3_push (X : Cx) (M : Mm) (hi : IC M) (a : Int) (ha : inL a) : Con X 0 yX3_push cX3_push 3 (some .boolean) [vr X 53, vl a] M (Qi (fun r M1 => IC M1 ∧ Fr (fun c => c = 53 ∨ c = 59) M M1 ∧ M1 53 4 = M 53 4 ∧ (r = 0 ∨ r = 1))) := by
  refine Con.ofG rfl (Nat.le_of_ble_eq_true rfl) ?_
  show G X 0 RX3 cX3_push 3 (some .boolean) (Qi (fun r M1 => IC M1 ∧ Fr (fun c => c = 53 ∨ c = 59) M M1 ∧ M1 53 4 = M 53 4 ∧ (r = 0 ∨ r = 1))) 0 [(0, vr X 53), (1, vl a)] [] M
  refine g_aload_n (pc' := 1) 0 dX3_push_0 rfl rfl ?_
  refine g_getI (pc' := 4) dX3_push_1 rfl f_X3_99 rfl rfl (fun v1 ev1 rv1 => ?_)
  have bv1 : 0 ≤ v1 ∧ v1 ≤ 50 := by rw [ev1]; exact hi.2.2.2.2
  have av1 : v1 = M 53 2 := ev1
  refine g_bipush (pc' := 6) (v := 50) dX3_push_4 rfl (by decide) ?_
  refine g_ic_ge (pc' := 9) (tgt := 25) rv1 (by decide) dX3_push_6 rfl rfl (fun c2 => ?_) (fun c2 => ?_)
  · refine g_iconst (pc' := 26) dX3_push_25 rfl ?_
    refine g_zreturn dX3_push_26 (by omega) ?_
    exact ⟨hi, Fr.rf, rfl, by omega⟩
  · refine g_lload_n (pc' := 10) 1 dX3_push_9 rfl rfl ?_
    refine g_ldc2 (pc' := 13) (v := 1000000000) dX3_push_10 rfl k_X3_144 ?_
    refine g_lc_gt (pc' := 17) (tgt := 25) ha (by decide) dX3_push_13 dX3_push_14 rfl rfl (fun c3 => ?_) (fun c3 => ?_)
    · refine g_iconst (pc' := 26) dX3_push_25 rfl ?_
      refine g_zreturn dX3_push_26 (by omega) ?_
      exact ⟨hi, Fr.rf, rfl, by omega⟩
    · refine g_lload_n (pc' := 18) 1 dX3_push_17 rfl rfl ?_
      refine g_ldc2 (pc' := 21) (v := (-1000000000)) dX3_push_18 rfl k_X3_146 ?_
      refine g_lc_ge (pc' := 25) (tgt := 27) ha (by decide) dX3_push_21 dX3_push_22 rfl rfl (fun c4 => ?_) (fun c4 => ?_)
      · refine g_aload_n (pc' := 28) 0 dX3_push_27 rfl rfl ?_
        refine g_getR (pc' := 31) dX3_push_28 rfl f_X3_18 rfl rfl ?_
        refine g_aload_n (pc' := 32) 0 dX3_push_31 rfl rfl ?_
        refine g_getI (pc' := 35) dX3_push_32 rfl f_X3_99 rfl rfl (fun v5 ev5 rv5 => ?_)
        obtain rfl : v1 = v5 := ev1.trans ev5.symm
        refine g_lload_n (pc' := 36) 1 dX3_push_35 rfl rfl ?_
        refine g_last (pc' := 37) dX3_push_36 rfl rfl (by omega) (by omega) ha (fun M6 hM6 => ?_)
        have iM6 : IC M6 := IC.wr hi hM6 (by unfold okw isT; first | decide | omega)
        have fM6 : Fr (fun c => c = 53 ∨ c = 59) M M6 := Fr.wr Fr.rf hM6 (by first | decide | omega | (dsimp only; omega))
        have q53_4_M6 : id (M6 53 4 = M 53 4) := (show M6 53 4 = M 53 4 by rw [hM6]; exact mu_ne _ _ (by first | decide | omega))
        have q53_2_M6 : (M6 53 2 = M 53 2) := (show M6 53 2 = M 53 2 by rw [hM6]; exact mu_ne _ _ (by first | decide | omega))
        refine g_aload_n (pc' := 38) 0 dX3_push_37 rfl rfl ?_
        refine g_dup (pc' := 39) dX3_push_38 rfl rfl ?_
        refine g_getI (pc' := 42) dX3_push_39 rfl f_X3_99 rfl rfl (fun v7 ev7 rv7 => ?_)
        have bv7 : 0 ≤ v7 ∧ v7 ≤ 50 := by rw [ev7]; exact iM6.2.2.2.2
        have av7 : v7 = M 53 2 := ev7.trans q53_2_M6
        obtain rfl : v1 = v7 := av1.trans av7.symm
        refine g_iconst (pc' := 43) dX3_push_42 rfl ?_
        refine g_iadd (pc' := 44) dX3_push_43 rfl ?_
        refine g_putI (pc' := 47) dX3_push_44 rfl p_X3_99 rfl rfl ⟨by omega, by omega⟩ (fun M8 hM8 => ?_)
        have iM8 : IC M8 := IC.wr iM6 hM8 (by unfold okw isT; first | decide | omega)
        have fM8 : Fr (fun c => c = 53 ∨ c = 59) M M8 := Fr.wr fM6 hM8 (by first | decide | omega | (dsimp only; omega))
        have q53_4_M8 : id (M8 53 4 = M 53 4) := (show M8 53 4 = M6 53 4 by rw [hM8]; exact mu_ne _ _ (by first | decide | omega)).trans q53_4_M6
        have xM8_53_2 : M8 53 2 = v1 + 1 := by rw [hM8]; exact mu_at _ _ _ _
        refine g_iconst (pc' := 48) dX3_push_47 rfl ?_
        refine g_zreturn dX3_push_48 (by omega) ?_
        exact ⟨iM8, fM8, q53_4_M8, by omega⟩
      · refine g_iconst (pc' := 26) dX3_push_25 rfl ?_
        refine g_zreturn dX3_push_26 (by omega) ?_
        exact ⟨hi, Fr.rf, rfl, by omega⟩
set_option maxHeartbeats 4000000 in
set_option maxRecDepth 100000 in
theorem c_X3_pop (X : Cx) (M : Mm) (hi : IC M) : Con X 0 yX3_pop cX3_pop 1 (some .long) [vr X 53] M (Ql (fun r M1 => IC M1 ∧ Fr (fun c => c = 53 ∨ c = 59) M M1 ∧ M1 53 4 = M 53 4 ∧ (inL r))) := by
  refine Con.ofG rfl (Nat.le_of_ble_eq_true rfl) ?_
  show G X 0 RX3 cX3_pop 1 (some .long) (Ql (fun r M1 => IC M1 ∧ Fr (fun c => c = 53 ∨ c = 59) M M1 ∧ M1 53 4 = M 53 4 ∧ (inL r))) 0 [(0, vr X 53)] [] M
  refine g_aload_n (pc' := 1) 0 dX3_pop_0 rfl rfl ?_
  refine g_getI (pc' := 4) dX3_pop_1 rfl f_X3_99 rfl rfl (fun v1 ev1 rv1 => ?_)
  have bv1 : 0 ≤ v1 ∧ v1 ≤ 50 := by rw [ev1]; exact hi.2.2.2.2
  have av1 : v1 = M 53 2 := ev1
  refine g_if_gt (pc' := 7) (tgt := 9) rv1 dX3_pop_4 rfl rfl (fun c2 => ?_) (fun c2 => ?_)
  · refine g_aload_n (pc' := 10) 0 dX3_pop_9 rfl rfl ?_
    refine g_dup (pc' := 11) dX3_pop_10 rfl rfl ?_
    refine g_getI (pc' := 14) dX3_pop_11 rfl f_X3_99 rfl rfl (fun v3 ev3 rv3 => ?_)
    obtain rfl : v1 = v3 := ev1.trans ev3.symm
    refine g_iconst (pc' := 15) dX3_pop_14 rfl ?_
    refine g_isub (pc' := 16) dX3_pop_15 rfl ?_
    refine g_putI (pc' := 19) dX3_pop_16 rfl p_X3_99 rfl rfl ⟨by omega, by omega⟩ (fun M4 hM4 => ?_)
    have iM4 : IC M4 := IC.wr hi hM4 (by unfold okw isT; first | decide | omega)
    have fM4 : Fr (fun c => c = 53 ∨ c = 59) M M4 := Fr.wr Fr.rf hM4 (by first | decide | omega | (dsimp only; omega))
    have q53_4_M4 : id (M4 53 4 = M 53 4) := (show M4 53 4 = M 53 4 by rw [hM4]; exact mu_ne _ _ (by first | decide | omega))
    have xM4_53_2 : M4 53 2 = v1 - 1 := by rw [hM4]; exact mu_at _ _ _ _
    refine g_aload_n (pc' := 20) 0 dX3_pop_19 rfl rfl ?_
    refine g_getR (pc' := 23) dX3_pop_20 rfl f_X3_18 rfl rfl ?_
    refine g_aload_n (pc' := 24) 0 dX3_pop_23 rfl rfl ?_
    refine g_getI (pc' := 27) dX3_pop_24 rfl f_X3_99 rfl rfl (fun v5 ev5 rv5 => ?_)
    have bv5 : 0 ≤ v5 ∧ v5 ≤ 50 := by rw [ev5]; exact iM4.2.2.2.2
    have yv5 : v5 = v1 - 1 := ev5.trans xM4_53_2
    refine g_lald (pc' := 28) dX3_pop_27 rfl rfl (by omega) (by omega) (fun v6 ev6 rv6 => ?_)
    refine g_lreturn dX3_pop_28 ?_
    exact ⟨iM4, fM4, q53_4_M4, by first | assumption | decide⟩
  · refine g_lconst (pc' := 8) (v := 0) dX3_pop_7 rfl (by decide) ?_
    refine g_lreturn dX3_pop_8 ?_
    exact ⟨hi, Fr.rf, rfl, by first | assumption | decide⟩
set_option maxHeartbeats 4000000 in
set_option maxRecDepth 100000 in
theorem c_X3_isSettled (X : Cx) (M : Mm) (hi : IC M) (a : Int) (ha : inI a) : Con X 0 yX3_isSettled cX3_isSettled 3 (some .boolean) [vr X 53, vi a] M (Qi (fun r M1 => IC M1 ∧ Fr (fun c => c = 53 ∨ c = 59) M M1 ∧ M1 53 4 = M 53 4 ∧ (r = 0 ∨ r = 1))) := by
  refine Con.ofG rfl (Nat.le_of_ble_eq_true rfl) ?_
  show G X 0 RX3 cX3_isSettled 3 (some .boolean) (Qi (fun r M1 => IC M1 ∧ Fr (fun c => c = 53 ∨ c = 59) M M1 ∧ M1 53 4 = M 53 4 ∧ (r = 0 ∨ r = 1))) 0 [(0, vr X 53), (1, vi a)] [] M
  refine g_aload_n (pc' := 1) 0 dX3_isSettled_0 rfl rfl ?_
  refine g_getI (pc' := 4) dX3_isSettled_1 rfl f_X3_99 rfl rfl (fun v1 ev1 rv1 => ?_)
  have bv1 : 0 ≤ v1 ∧ v1 ≤ 50 := by rw [ev1]; exact hi.2.2.2.2
  have av1 : v1 = M 53 2 := ev1
  refine g_iconst (pc' := 5) dX3_isSettled_4 rfl ?_
  refine g_ic_ge (pc' := 8) (tgt := 10) rv1 (by decide) dX3_isSettled_5 rfl rfl (fun c2 => ?_) (fun c2 => ?_)
  · refine g_aload_n (pc' := 11) 0 dX3_isSettled_10 rfl rfl ?_
    refine g_getR (pc' := 14) dX3_isSettled_11 rfl f_X3_18 rfl rfl ?_
    refine g_aload_n (pc' := 15) 0 dX3_isSettled_14 rfl rfl ?_
    refine g_getI (pc' := 18) dX3_isSettled_15 rfl f_X3_99 rfl rfl (fun v3 ev3 rv3 => ?_)
    obtain rfl : v1 = v3 := ev1.trans ev3.symm
    refine g_iconst (pc' := 19) dX3_isSettled_18 rfl ?_
    refine g_isub (pc' := 20) dX3_isSettled_19 rfl ?_
    refine g_lald (pc' := 21) dX3_isSettled_20 rfl rfl (by omega) (by omega) (fun v4 ev4 rv4 => ?_)
    refine g_lconst (pc' := 22) (v := 0) dX3_isSettled_21 rfl (by decide) ?_
    refine g_lc_eq (pc' := 26) (tgt := 30) rv4 (by decide) dX3_isSettled_22 dX3_isSettled_23 rfl rfl (fun c5 => ?_) (fun c5 => ?_)
    · refine g_iconst (pc' := 31) dX3_isSettled_30 rfl ?_
      refine g_iload_n (pc' := 32) 1 dX3_isSettled_31 rfl rfl ?_
      refine g_bipush (pc' := 34) (v := 15) dX3_isSettled_32 rfl (by decide) ?_
      refine g_ic_ne (pc' := 37) (tgt := 41) ha (by decide) dX3_isSettled_34 rfl rfl (fun c6 => ?_) (fun c6 => ?_)
      · refine g_iconst (pc' := 42) dX3_isSettled_41 rfl ?_
        refine g_ic_ne (pc' := 45) (tgt := 49) (by decide) (by decide) dX3_isSettled_42 rfl rfl (fun c7 => ?_) (fun c7 => ?_)
        · exact absurd c7 (by omega)
        · refine g_iconst (pc' := 46) dX3_isSettled_45 rfl ?_
          refine g_goto (tgt := 50) dX3_isSettled_46 rfl ?_
          refine g_istore_n (pc' := 51) (i := 2) (L' := [(2, vi 1), (0, vr X 53), (1, vi a)]) dX3_isSettled_50 rfl rfl (by decide) rfl ?_
          refine g_iload_n (pc' := 52) 0 dX3_isSettled_51 rfl rfl ?_
          refine g_if_ne (pc' := 55) (tgt := 65) (by decide) dX3_isSettled_52 rfl rfl (fun c8 => ?_) (fun c8 => ?_)
          · refine g_iload_n (pc' := 66) 0 dX3_isSettled_65 rfl rfl ?_
            refine g_zreturn dX3_isSettled_66 (by omega) ?_
            exact ⟨hi, Fr.rf, rfl, by omega⟩
          · exact absurd c8 (by omega)
      · refine g_iconst (pc' := 38) dX3_isSettled_37 rfl ?_
        refine g_goto (tgt := 42) dX3_isSettled_38 rfl ?_
        refine g_ic_ne (pc' := 45) (tgt := 49) (by decide) (by decide) dX3_isSettled_42 rfl rfl (fun c9 => ?_) (fun c9 => ?_)
        · refine g_iconst (pc' := 50) dX3_isSettled_49 rfl ?_
          refine g_istore_n (pc' := 51) (i := 2) (L' := [(2, vi 0), (0, vr X 53), (1, vi a)]) dX3_isSettled_50 rfl rfl (by decide) rfl ?_
          refine g_iload_n (pc' := 52) 0 dX3_isSettled_51 rfl rfl ?_
          refine g_if_ne (pc' := 55) (tgt := 65) (by decide) dX3_isSettled_52 rfl rfl (fun c10 => ?_) (fun c10 => ?_)
          · exact absurd c10 (by omega)
          · refine g_aload_n (pc' := 56) 1 dX3_isSettled_55 rfl rfl ?_
            refine g_dup (pc' := 57) dX3_isSettled_56 rfl rfl ?_
            refine g_getI (pc' := 60) dX3_isSettled_57 rfl f_X3_99 rfl rfl (fun v11 ev11 rv11 => ?_)
            obtain rfl : v1 = v11 := ev1.trans ev11.symm
            refine g_iconst (pc' := 61) dX3_isSettled_60 rfl ?_
            refine g_isub (pc' := 62) dX3_isSettled_61 rfl ?_
            refine g_putI (pc' := 65) dX3_isSettled_62 rfl p_X3_99 rfl rfl ⟨by omega, by omega⟩ (fun M12 hM12 => ?_)
            have iM12 : IC M12 := IC.wr hi hM12 (by unfold okw isT; first | decide | omega)
            have fM12 : Fr (fun c => c = 53 ∨ c = 59) M M12 := Fr.wr Fr.rf hM12 (by first | decide | omega | (dsimp only; omega))
            have q53_4_M12 : id (M12 53 4 = M 53 4) := (show M12 53 4 = M 53 4 by rw [hM12]; exact mu_ne _ _ (by first | decide | omega))
            have xM12_53_2 : M12 53 2 = v1 - 1 := by rw [hM12]; exact mu_at _ _ _ _
            refine g_iload_n (pc' := 66) 0 dX3_isSettled_65 rfl rfl ?_
            refine g_zreturn dX3_isSettled_66 (by omega) ?_
            exact ⟨iM12, fM12, q53_4_M12, by omega⟩
        · exact absurd c9 (by omega)
    · refine g_iconst (pc' := 27) dX3_isSettled_26 rfl ?_
      refine g_goto (tgt := 31) dX3_isSettled_27 rfl ?_
      refine g_iload_n (pc' := 32) 1 dX3_isSettled_31 rfl rfl ?_
      refine g_bipush (pc' := 34) (v := 15) dX3_isSettled_32 rfl (by decide) ?_
      refine g_ic_ne (pc' := 37) (tgt := 41) ha (by decide) dX3_isSettled_34 rfl rfl (fun c13 => ?_) (fun c13 => ?_)
      · refine g_iconst (pc' := 42) dX3_isSettled_41 rfl ?_
        refine g_ic_ne (pc' := 45) (tgt := 49) (by decide) (by decide) dX3_isSettled_42 rfl rfl (fun c14 => ?_) (fun c14 => ?_)
        · refine g_iconst (pc' := 50) dX3_isSettled_49 rfl ?_
          refine g_istore_n (pc' := 51) (i := 2) (L' := [(2, vi 0), (0, vr X 53), (1, vi a)]) dX3_isSettled_50 rfl rfl (by decide) rfl ?_
          refine g_iload_n (pc' := 52) 0 dX3_isSettled_51 rfl rfl ?_
          refine g_if_ne (pc' := 55) (tgt := 65) (by decide) dX3_isSettled_52 rfl rfl (fun c15 => ?_) (fun c15 => ?_)
          · exact absurd c15 (by omega)
          · refine g_aload_n (pc' := 56) 1 dX3_isSettled_55 rfl rfl ?_
            refine g_dup (pc' := 57) dX3_isSettled_56 rfl rfl ?_
            refine g_getI (pc' := 60) dX3_isSettled_57 rfl f_X3_99 rfl rfl (fun v16 ev16 rv16 => ?_)
            obtain rfl : v1 = v16 := ev1.trans ev16.symm
            refine g_iconst (pc' := 61) dX3_isSettled_60 rfl ?_
            refine g_isub (pc' := 62) dX3_isSettled_61 rfl ?_
            refine g_putI (pc' := 65) dX3_isSettled_62 rfl p_X3_99 rfl rfl ⟨by omega, by omega⟩ (fun M17 hM17 => ?_)
            have iM17 : IC M17 := IC.wr hi hM17 (by unfold okw isT; first | decide | omega)
            have fM17 : Fr (fun c => c = 53 ∨ c = 59) M M17 := Fr.wr Fr.rf hM17 (by first | decide | omega | (dsimp only; omega))
            have q53_4_M17 : id (M17 53 4 = M 53 4) := (show M17 53 4 = M 53 4 by rw [hM17]; exact mu_ne _ _ (by first | decide | omega))
            have xM17_53_2 : M17 53 2 = v1 - 1 := by rw [hM17]; exact mu_at _ _ _ _
            refine g_iload_n (pc' := 66) 0 dX3_isSettled_65 rfl rfl ?_
            refine g_zreturn dX3_isSettled_66 (by omega) ?_
            exact ⟨iM17, fM17, q53_4_M17, by omega⟩
        · exact absurd c14 (by omega)
      · refine g_iconst (pc' := 38) dX3_isSettled_37 rfl ?_
        refine g_goto (tgt := 42) dX3_isSettled_38 rfl ?_
        refine g_ic_ne (pc' := 45) (tgt := 49) (by decide) (by decide) dX3_isSettled_42 rfl rfl (fun c18 => ?_) (fun c18 => ?_)
        · exact absurd c18 (by omega)
        · refine g_iconst (pc' := 46) dX3_isSettled_45 rfl ?_
          refine g_goto (tgt := 50) dX3_isSettled_46 rfl ?_
          refine g_istore_n (pc' := 51) (i := 2) (L' := [(2, vi 1), (0, vr X 53), (1, vi a)]) dX3_isSettled_50 rfl rfl (by decide) rfl ?_
          refine g_iload_n (pc' := 52) 0 dX3_isSettled_51 rfl rfl ?_
          refine g_if_ne (pc' := 55) (tgt := 65) (by decide) dX3_isSettled_52 rfl rfl (fun c19 => ?_) (fun c19 => ?_)
          · refine g_iload_n (pc' := 66) 0 dX3_isSettled_65 rfl rfl ?_
            refine g_zreturn dX3_isSettled_66 (by omega) ?_
            exact ⟨hi, Fr.rf, rfl, by omega⟩
          · exact absurd c19 (by omega)
  · refine g_iconst (pc' := 9) dX3_isSettled_8 rfl ?_
    refine g_zreturn dX3_isSettled_9 (by omega) ?_
    exact ⟨hi, Fr.rf, rfl, by omega⟩
set_option maxHeartbeats 4000000 in
set_option maxRecDepth 100000 in
theorem c_X3_work (X : Cx) (M : Mm) (hi : IC M) (a : Int) (ha : inI a) (b : Int) (hb : inI b) : Con X 2 yX3_work cX3_work 4 (some .boolean) [vr X 53, vi a, vi b] M (Qi (fun r M1 => IC M1 ∧ Fr (fun c => c = 53 ∨ c = 59) M M1 ∧ M1 53 4 = M 53 4 ∧ (r = 0 ∨ r = 1))) := by
  refine Con.ofG rfl (Nat.le_of_ble_eq_true rfl) ?_
  show G X 2 RX3 cX3_work 4 (some .boolean) (Qi (fun r M1 => IC M1 ∧ Fr (fun c => c = 53 ∨ c = 59) M M1 ∧ M1 53 4 = M 53 4 ∧ (r = 0 ∨ r = 1))) 0 [(0, vr X 53), (1, vi a), (2, vi b)] [] M
  refine g_iload_n (pc' := 1) 2 dX3_work_0 rfl rfl ?_
  refine g_iconst (pc' := 2) dX3_work_1 rfl ?_
  refine g_idiv (pc' := 3) hb (by decide) (by omega) dX3_work_2 rfl ?_
  refine g_nrmI (fun n1 rn1 en1 => ?_)
  have bn1 : (-2147483648 ≤ b.tdiv 4 ∧ b.tdiv 4 ≤ 2147483647) → n1 = b.tdiv 4 := fun h => en1.trans (bm32 h)
  refine g_istore_n (pc' := 4) (i := 3) (L' := [(3, vi n1), (0, vr X 53), (1, vi a), (2, vi b)]) dX3_work_3 rfl rfl (by decide) rfl ?_
  refine g_iload_n (pc' := 5) 2 dX3_work_4 rfl rfl ?_
  by_cases c2 : a = 1
  · refine g_tabIn (tgt := 72) (off := 67) ha dX3_work_5 (by omega) (by omega) (by rw [c2]; rfl) rfl ?_
    refine g_aload_n (pc' := 73) 1 dX3_work_72 rfl rfl ?_
    refine g_iload_n (pc' := 74) 3 dX3_work_73 rfl rfl ?_
    refine g_i2l (pc' := 75) hb dX3_work_74 rfl ?_
    refine g_callVi (pc' := 78) (As := [vl b]) (b := 53) (S := []) dX3_work_75 rfl m_X3_120 w_X3_push (c_X3_push X M hi b ⟨by omega, by omega⟩) rfl ⟨_, _, _, rfl, rfl, rfl⟩ (by decide) (by decide) rfl (Nat.le_of_ble_eq_true rfl) (fun z4 M5 q3 => ?_)
    obtain ⟨iM5, fM50, eM5_53_4, pM5⟩ := q3
    have fM5 : Fr (fun c => c = 53 ∨ c = 59) M M5 := Fr.tr Fr.rf fM50 (fun _ z => z)
    have q53_4_M5 : id (M5 53 4 = M 53 4) := eM5_53_4
    clear eM5_53_4
    refine g_zreturn dX3_work_78 (by omega) ?_
    exact ⟨iM5, fM5, q53_4_M5, by omega⟩
  by_cases c6 : a = 2
  · refine g_tabIn (tgt := 79) (off := 74) ha dX3_work_5 (by omega) (by omega) (by rw [c6]; rfl) rfl ?_
    refine g_aload_n (pc' := 80) 1 dX3_work_79 rfl rfl ?_
    refine g_aload_n (pc' := 81) 1 dX3_work_80 rfl rfl ?_
    refine g_getR (pc' := 84) dX3_work_81 rfl f_X3_12 rfl rfl ?_
    refine g_iload_n (pc' := 85) 0 dX3_work_84 rfl rfl ?_
    refine g_callVip (pc' := 88) (As := [vi n1]) (b := 54) (S := [vr X 53]) dX3_work_85 rfl m_X3_124 w_X7_fullOf (c_X7_fullOf X M 54 isT_54 (hi.1 _ isT_54) n1 rn1) rfl ⟨_, _, _, rfl, rfl, rfl⟩ (by decide) (by decide) rfl (Nat.le_of_ble_eq_true rfl) (fun z8 q7 => ?_)
    refine g_i2l (pc' := 89) ⟨by omega, by omega⟩ dX3_work_88 rfl ?_
    refine g_callVi (pc' := 92) (As := [vl z8]) (b := 53) (S := []) dX3_work_89 rfl m_X3_120 w_X3_push (c_X3_push X M hi z8 ⟨by omega, by omega⟩) rfl ⟨_, _, _, rfl, rfl, rfl⟩ (by decide) (by decide) rfl (Nat.le_of_ble_eq_true rfl) (fun z10 M11 q9 => ?_)
    obtain ⟨iM11, fM110, eM11_53_4, pM11⟩ := q9
    have fM11 : Fr (fun c => c = 53 ∨ c = 59) M M11 := Fr.tr Fr.rf fM110 (fun _ z => z)
    have q53_4_M11 : id (M11 53 4 = M 53 4) := eM11_53_4
    clear eM11_53_4
    refine g_zreturn dX3_work_92 (by omega) ?_
    exact ⟨iM11, fM11, q53_4_M11, by omega⟩
  by_cases c12 : a = 3
  · refine g_tabIn (tgt := 93) (off := 88) ha dX3_work_5 (by omega) (by omega) (by rw [c12]; rfl) rfl ?_
    refine g_aload_n (pc' := 94) 1 dX3_work_93 rfl rfl ?_
    refine g_aload_n (pc' := 95) 1 dX3_work_94 rfl rfl ?_
    refine g_getR (pc' := 98) dX3_work_95 rfl f_X3_12 rfl rfl ?_
    refine g_iload_n (pc' := 99) 0 dX3_work_98 rfl rfl ?_
    refine g_callVip (pc' := 102) (As := [vi n1]) (b := 54) (S := [vr X 53]) dX3_work_99 rfl m_X3_128 w_X7_sizeOf (c_X7_sizeOf X M 54 isT_54 (hi.1 _ isT_54) n1 rn1) rfl ⟨_, _, _, rfl, rfl, rfl⟩ (by decide) (by decide) rfl (Nat.le_of_ble_eq_true rfl) (fun z14 q13 => ?_)
    refine g_i2l (pc' := 103) ⟨by omega, by omega⟩ dX3_work_102 rfl ?_
    refine g_callVi (pc' := 106) (As := [vl z14]) (b := 53) (S := []) dX3_work_103 rfl m_X3_120 w_X3_push (c_X3_push X M hi z14 ⟨by omega, by omega⟩) rfl ⟨_, _, _, rfl, rfl, rfl⟩ (by decide) (by decide) rfl (Nat.le_of_ble_eq_true rfl) (fun z16 M17 q15 => ?_)
    obtain ⟨iM17, fM170, eM17_53_4, pM17⟩ := q15
    have fM17 : Fr (fun c => c = 53 ∨ c = 59) M M17 := Fr.tr Fr.rf fM170 (fun _ z => z)
    have q53_4_M17 : id (M17 53 4 = M 53 4) := eM17_53_4
    clear eM17_53_4
    refine g_zreturn dX3_work_106 (by omega) ?_
    exact ⟨iM17, fM17, q53_4_M17, by omega⟩
  by_cases c18 : a = 4
  · refine g_tabIn (tgt := 107) (off := 102) ha dX3_work_5 (by omega) (by omega) (by rw [c18]; rfl) rfl ?_
    refine g_aload_n (pc' := 108) 1 dX3_work_107 rfl rfl ?_
    refine g_aload_n (pc' := 109) 1 dX3_work_108 rfl rfl ?_
    refine g_getR (pc' := 112) dX3_work_109 rfl f_X3_12 rfl rfl ?_
    refine g_iload_n (pc' := 113) 0 dX3_work_112 rfl rfl ?_
    refine g_iload_n (pc' := 114) 3 dX3_work_113 rfl rfl ?_
    refine g_iconst (pc' := 115) dX3_work_114 rfl ?_
    refine g_irem (pc' := 116) hb (by decide) (by omega) dX3_work_115 rfl ?_
    refine g_nrmI (fun n19 rn19 en19 => ?_)
    have bn19 : (-2147483648 ≤ b.tmod 4 ∧ b.tmod 4 ≤ 2147483647) → n19 = b.tmod 4 := fun h => en19.trans (bm32 h)
    refine g_callVip (pc' := 119) (As := [vi n1, vi n19]) (b := 54) (S := [vr X 53]) dX3_work_116 rfl m_X3_131 w_X7_tasteOf (c_X7_tasteOf X M 54 isT_54 (hi.1 _ isT_54) n1 rn1 n19 rn19) rfl ⟨_, _, _, rfl, rfl, rfl⟩ (by decide) (by decide) rfl (Nat.le_of_ble_eq_true rfl) (fun z21 q20 => ?_)
    refine g_i2l (pc' := 120) ⟨by omega, by omega⟩ dX3_work_119 rfl ?_
    refine g_callVi (pc' := 123) (As := [vl z21]) (b := 53) (S := []) dX3_work_120 rfl m_X3_120 w_X3_push (c_X3_push X M hi z21 ⟨by omega, by omega⟩) rfl ⟨_, _, _, rfl, rfl, rfl⟩ (by decide) (by decide) rfl (Nat.le_of_ble_eq_true rfl) (fun z23 M24 q22 => ?_)
    obtain ⟨iM24, fM240, eM24_53_4, pM24⟩ := q22
    have fM24 : Fr (fun c => c = 53 ∨ c = 59) M M24 := Fr.tr Fr.rf fM240 (fun _ z => z)
    have q53_4_M24 : id (M24 53 4 = M 53 4) := eM24_53_4
    clear eM24_53_4
    refine g_zreturn dX3_work_123 (by omega) ?_
    exact ⟨iM24, fM24, q53_4_M24, by omega⟩
  by_cases c25 : a = 5
  · refine g_tabIn (tgt := 124) (off := 119) ha dX3_work_5 (by omega) (by omega) (by rw [c25]; rfl) rfl ?_
    refine g_aload_n (pc' := 125) 1 dX3_work_124 rfl rfl ?_
    refine g_aload_n (pc' := 126) 1 dX3_work_125 rfl rfl ?_
    refine g_getI (pc' := 129) dX3_work_126 rfl f_X3_26 rfl rfl (fun v26 ev26 rv26 => ?_)
    refine g_i2l (pc' := 130) rv26 dX3_work_129 rfl ?_
    refine g_callVi (pc' := 133) (As := [vl v26]) (b := 53) (S := []) dX3_work_130 rfl m_X3_120 w_X3_push (c_X3_push X M hi v26 ⟨by omega, by omega⟩) rfl ⟨_, _, _, rfl, rfl, rfl⟩ (by decide) (by decide) rfl (Nat.le_of_ble_eq_true rfl) (fun z28 M29 q27 => ?_)
    obtain ⟨iM29, fM290, eM29_53_4, pM29⟩ := q27
    have fM29 : Fr (fun c => c = 53 ∨ c = 59) M M29 := Fr.tr Fr.rf fM290 (fun _ z => z)
    have q53_4_M29 : id (M29 53 4 = M 53 4) := eM29_53_4
    clear eM29_53_4
    refine g_zreturn dX3_work_133 (by omega) ?_
    exact ⟨iM29, fM29, q53_4_M29, by omega⟩
  by_cases c30 : a = 6
  · refine g_tabIn (tgt := 145) (off := 140) ha dX3_work_5 (by omega) (by omega) (by rw [c30]; rfl) rfl ?_
    refine g_aload_n (pc' := 146) 1 dX3_work_145 rfl rfl ?_
    refine g_iload_n (pc' := 147) 2 dX3_work_146 rfl rfl ?_
    refine g_aload_n (pc' := 148) 1 dX3_work_147 rfl rfl ?_
    refine g_callVl (pc' := 151) (As := []) (b := 53) (S := [vi a, vr X 53]) dX3_work_148 rfl m_X3_134 w_X3_pop (c_X3_pop X M hi) rfl ⟨_, _, _, rfl, rfl, rfl⟩ (by decide) (by decide) rfl (Nat.le_of_ble_eq_true rfl) (fun z32 M33 q31 => ?_)
    obtain ⟨iM33, fM330, eM33_53_4, pM33⟩ := q31
    have fM33 : Fr (fun c => c = 53 ∨ c = 59) M M33 := Fr.tr Fr.rf fM330 (fun _ z => z)
    have q53_4_M33 : id (M33 53 4 = M 53 4) := eM33_53_4
    clear eM33_53_4
    refine g_aload_n (pc' := 152) 1 dX3_work_151 rfl rfl ?_
    refine g_callVl (pc' := 155) (As := []) (b := 53) (S := [vl z32, vi a, vr X 53]) dX3_work_152 rfl m_X3_134 w_X3_pop (c_X3_pop X M33 iM33) rfl ⟨_, _, _, rfl, rfl, rfl⟩ (by decide) (by decide) rfl (Nat.le_of_ble_eq_true rfl) (fun z35 M36 q34 => ?_)
    obtain ⟨iM36, fM360, eM36_53_4, pM36⟩ := q34
    have fM36 : Fr (fun c => c = 53 ∨ c = 59) M M36 := Fr.tr fM33 fM360 (fun _ z => z)
    have q53_4_M36 : id (M36 53 4 = M 53 4) := eM36_53_4.trans q53_4_M33
    clear eM36_53_4
    refine g_callSlp (pc' := 158) (As := [vi a, vl z32, vl z35]) (S := [vr X 53]) dX3_work_155 rfl m_X3_138 w_X3_combined (c_X3_combined X M36 a ha z32 ⟨by omega, by omega⟩ z35 ⟨by omega, by omega⟩) rfl (by decide) (by decide) rfl (Nat.le_of_ble_eq_true rfl) (fun z38 q37 => ?_)
    refine g_callVi (pc' := 161) (As := [vl z38]) (b := 53) (S := []) dX3_work_158 rfl m_X3_120 w_X3_push (c_X3_push X M36 iM36 z38 ⟨by omega, by omega⟩) rfl ⟨_, _, _, rfl, rfl, rfl⟩ (by decide) (by decide) rfl (Nat.le_of_ble_eq_true rfl) (fun z40 M41 q39 => ?_)
    obtain ⟨iM41, fM410, eM41_53_4, pM41⟩ := q39
    have fM41 : Fr (fun c => c = 53 ∨ c = 59) M M41 := Fr.tr fM36 fM410 (fun _ z => z)
    have q53_4_M41 : id (M41 53 4 = M 53 4) := eM41_53_4.trans q53_4_M36
    clear eM41_53_4
    refine g_zreturn dX3_work_161 (by omega) ?_
    exact ⟨iM41, fM41, q53_4_M41, by omega⟩
  by_cases c42 : a = 7
  · refine g_tabIn (tgt := 145) (off := 140) ha dX3_work_5 (by omega) (by omega) (by rw [c42]; rfl) rfl ?_
    refine g_aload_n (pc' := 146) 1 dX3_work_145 rfl rfl ?_
    refine g_iload_n (pc' := 147) 2 dX3_work_146 rfl rfl ?_
    refine g_aload_n (pc' := 148) 1 dX3_work_147 rfl rfl ?_
    refine g_callVl (pc' := 151) (As := []) (b := 53) (S := [vi a, vr X 53]) dX3_work_148 rfl m_X3_134 w_X3_pop (c_X3_pop X M hi) rfl ⟨_, _, _, rfl, rfl, rfl⟩ (by decide) (by decide) rfl (Nat.le_of_ble_eq_true rfl) (fun z44 M45 q43 => ?_)
    obtain ⟨iM45, fM450, eM45_53_4, pM45⟩ := q43
    have fM45 : Fr (fun c => c = 53 ∨ c = 59) M M45 := Fr.tr Fr.rf fM450 (fun _ z => z)
    have q53_4_M45 : id (M45 53 4 = M 53 4) := eM45_53_4
    clear eM45_53_4
    refine g_aload_n (pc' := 152) 1 dX3_work_151 rfl rfl ?_
    refine g_callVl (pc' := 155) (As := []) (b := 53) (S := [vl z44, vi a, vr X 53]) dX3_work_152 rfl m_X3_134 w_X3_pop (c_X3_pop X M45 iM45) rfl ⟨_, _, _, rfl, rfl, rfl⟩ (by decide) (by decide) rfl (Nat.le_of_ble_eq_true rfl) (fun z47 M48 q46 => ?_)
    obtain ⟨iM48, fM480, eM48_53_4, pM48⟩ := q46
    have fM48 : Fr (fun c => c = 53 ∨ c = 59) M M48 := Fr.tr fM45 fM480 (fun _ z => z)
    have q53_4_M48 : id (M48 53 4 = M 53 4) := eM48_53_4.trans q53_4_M45
    clear eM48_53_4
    refine g_callSlp (pc' := 158) (As := [vi a, vl z44, vl z47]) (S := [vr X 53]) dX3_work_155 rfl m_X3_138 w_X3_combined (c_X3_combined X M48 a ha z44 ⟨by omega, by omega⟩ z47 ⟨by omega, by omega⟩) rfl (by decide) (by decide) rfl (Nat.le_of_ble_eq_true rfl) (fun z50 q49 => ?_)
    refine g_callVi (pc' := 161) (As := [vl z50]) (b := 53) (S := []) dX3_work_158 rfl m_X3_120 w_X3_push (c_X3_push X M48 iM48 z50 ⟨by omega, by omega⟩) rfl ⟨_, _, _, rfl, rfl, rfl⟩ (by decide) (by decide) rfl (Nat.le_of_ble_eq_true rfl) (fun z52 M53 q51 => ?_)
    obtain ⟨iM53, fM530, eM53_53_4, pM53⟩ := q51
    have fM53 : Fr (fun c => c = 53 ∨ c = 59) M M53 := Fr.tr fM48 fM530 (fun _ z => z)
    have q53_4_M53 : id (M53 53 4 = M 53 4) := eM53_53_4.trans q53_4_M48
    clear eM53_53_4
    refine g_zreturn dX3_work_161 (by omega) ?_
    exact ⟨iM53, fM53, q53_4_M53, by omega⟩
  by_cases c54 : a = 8
  · refine g_tabIn (tgt := 145) (off := 140) ha dX3_work_5 (by omega) (by omega) (by rw [c54]; rfl) rfl ?_
    refine g_aload_n (pc' := 146) 1 dX3_work_145 rfl rfl ?_
    refine g_iload_n (pc' := 147) 2 dX3_work_146 rfl rfl ?_
    refine g_aload_n (pc' := 148) 1 dX3_work_147 rfl rfl ?_
    refine g_callVl (pc' := 151) (As := []) (b := 53) (S := [vi a, vr X 53]) dX3_work_148 rfl m_X3_134 w_X3_pop (c_X3_pop X M hi) rfl ⟨_, _, _, rfl, rfl, rfl⟩ (by decide) (by decide) rfl (Nat.le_of_ble_eq_true rfl) (fun z56 M57 q55 => ?_)
    obtain ⟨iM57, fM570, eM57_53_4, pM57⟩ := q55
    have fM57 : Fr (fun c => c = 53 ∨ c = 59) M M57 := Fr.tr Fr.rf fM570 (fun _ z => z)
    have q53_4_M57 : id (M57 53 4 = M 53 4) := eM57_53_4
    clear eM57_53_4
    refine g_aload_n (pc' := 152) 1 dX3_work_151 rfl rfl ?_
    refine g_callVl (pc' := 155) (As := []) (b := 53) (S := [vl z56, vi a, vr X 53]) dX3_work_152 rfl m_X3_134 w_X3_pop (c_X3_pop X M57 iM57) rfl ⟨_, _, _, rfl, rfl, rfl⟩ (by decide) (by decide) rfl (Nat.le_of_ble_eq_true rfl) (fun z59 M60 q58 => ?_)
    obtain ⟨iM60, fM600, eM60_53_4, pM60⟩ := q58
    have fM60 : Fr (fun c => c = 53 ∨ c = 59) M M60 := Fr.tr fM57 fM600 (fun _ z => z)
    have q53_4_M60 : id (M60 53 4 = M 53 4) := eM60_53_4.trans q53_4_M57
    clear eM60_53_4
    refine g_callSlp (pc' := 158) (As := [vi a, vl z56, vl z59]) (S := [vr X 53]) dX3_work_155 rfl m_X3_138 w_X3_combined (c_X3_combined X M60 a ha z56 ⟨by omega, by omega⟩ z59 ⟨by omega, by omega⟩) rfl (by decide) (by decide) rfl (Nat.le_of_ble_eq_true rfl) (fun z62 q61 => ?_)
    refine g_callVi (pc' := 161) (As := [vl z62]) (b := 53) (S := []) dX3_work_158 rfl m_X3_120 w_X3_push (c_X3_push X M60 iM60 z62 ⟨by omega, by omega⟩) rfl ⟨_, _, _, rfl, rfl, rfl⟩ (by decide) (by decide) rfl (Nat.le_of_ble_eq_true rfl) (fun z64 M65 q63 => ?_)
    obtain ⟨iM65, fM650, eM65_53_4, pM65⟩ := q63
    have fM65 : Fr (fun c => c = 53 ∨ c = 59) M M65 := Fr.tr fM60 fM650 (fun _ z => z)
    have q53_4_M65 : id (M65 53 4 = M 53 4) := eM65_53_4.trans q53_4_M60
    clear eM65_53_4
    refine g_zreturn dX3_work_161 (by omega) ?_
    exact ⟨iM65, fM65, q53_4_M65, by omega⟩
  by_cases c66 : a = 9
  · refine g_tabIn (tgt := 145) (off := 140) ha dX3_work_5 (by omega) (by omega) (by rw [c66]; rfl) rfl ?_
    refine g_aload_n (pc' := 146) 1 dX3_work_145 rfl rfl ?_
    refine g_iload_n (pc' := 147) 2 dX3_work_146 rfl rfl ?_
    refine g_aload_n (pc' := 148) 1 dX3_work_147 rfl rfl ?_
    refine g_callVl (pc' := 151) (As := []) (b := 53) (S := [vi a, vr X 53]) dX3_work_148 rfl m_X3_134 w_X3_pop (c_X3_pop X M hi) rfl ⟨_, _, _, rfl, rfl, rfl⟩ (by decide) (by decide) rfl (Nat.le_of_ble_eq_true rfl) (fun z68 M69 q67 => ?_)
    obtain ⟨iM69, fM690, eM69_53_4, pM69⟩ := q67
    have fM69 : Fr (fun c => c = 53 ∨ c = 59) M M69 := Fr.tr Fr.rf fM690 (fun _ z => z)
    have q53_4_M69 : id (M69 53 4 = M 53 4) := eM69_53_4
    clear eM69_53_4
    refine g_aload_n (pc' := 152) 1 dX3_work_151 rfl rfl ?_
    refine g_callVl (pc' := 155) (As := []) (b := 53) (S := [vl z68, vi a, vr X 53]) dX3_work_152 rfl m_X3_134 w_X3_pop (c_X3_pop X M69 iM69) rfl ⟨_, _, _, rfl, rfl, rfl⟩ (by decide) (by decide) rfl (Nat.le_of_ble_eq_true rfl) (fun z71 M72 q70 => ?_)
    obtain ⟨iM72, fM720, eM72_53_4, pM72⟩ := q70
    have fM72 : Fr (fun c => c = 53 ∨ c = 59) M M72 := Fr.tr fM69 fM720 (fun _ z => z)
    have q53_4_M72 : id (M72 53 4 = M 53 4) := eM72_53_4.trans q53_4_M69
    clear eM72_53_4
    refine g_callSlp (pc' := 158) (As := [vi a, vl z68, vl z71]) (S := [vr X 53]) dX3_work_155 rfl m_X3_138 w_X3_combined (c_X3_combined X M72 a ha z68 ⟨by omega, by omega⟩ z71 ⟨by omega, by omega⟩) rfl (by decide) (by decide) rfl (Nat.le_of_ble_eq_true rfl) (fun z74 q73 => ?_)
    refine g_callVi (pc' := 161) (As := [vl z74]) (b := 53) (S := []) dX3_work_158 rfl m_X3_120 w_X3_push (c_X3_push X M72 iM72 z74 ⟨by omega, by omega⟩) rfl ⟨_, _, _, rfl, rfl, rfl⟩ (by decide) (by decide) rfl (Nat.le_of_ble_eq_true rfl) (fun z76 M77 q75 => ?_)
    obtain ⟨iM77, fM770, eM77_53_4, pM77⟩ := q75
    have fM77 : Fr (fun c => c = 53 ∨ c = 59) M M77 := Fr.tr fM72 fM770 (fun _ z => z)
    have q53_4_M77 : id (M77 53 4 = M 53 4) := eM77_53_4.trans q53_4_M72
    clear eM77_53_4
    refine g_zreturn dX3_work_161 (by omega) ?_
    exact ⟨iM77, fM77, q53_4_M77, by omega⟩
  by_cases c78 : a = 10
  · refine g_tabIn (tgt := 145) (off := 140) ha dX3_work_5 (by omega) (by omega) (by rw [c78]; rfl) rfl ?_
    refine g_aload_n (pc' := 146) 1 dX3_work_145 rfl rfl ?_
    refine g_iload_n (pc' := 147) 2 dX3_work_146 rfl rfl ?_
    refine g_aload_n (pc' := 148) 1 dX3_work_147 rfl rfl ?_
    refine g_callVl (pc' := 151) (As := []) (b := 53) (S := [vi a, vr X 53]) dX3_work_148 rfl m_X3_134 w_X3_pop (c_X3_pop X M hi) rfl ⟨_, _, _, rfl, rfl, rfl⟩ (by decide) (by decide) rfl (Nat.le_of_ble_eq_true rfl) (fun z80 M81 q79 => ?_)
    obtain ⟨iM81, fM810, eM81_53_4, pM81⟩ := q79
    have fM81 : Fr (fun c => c = 53 ∨ c = 59) M M81 := Fr.tr Fr.rf fM810 (fun _ z => z)
    have q53_4_M81 : id (M81 53 4 = M 53 4) := eM81_53_4
    clear eM81_53_4
    refine g_aload_n (pc' := 152) 1 dX3_work_151 rfl rfl ?_
    refine g_callVl (pc' := 155) (As := []) (b := 53) (S := [vl z80, vi a, vr X 53]) dX3_work_152 rfl m_X3_134 w_X3_pop (c_X3_pop X M81 iM81) rfl ⟨_, _, _, rfl, rfl, rfl⟩ (by decide) (by decide) rfl (Nat.le_of_ble_eq_true rfl) (fun z83 M84 q82 => ?_)
    obtain ⟨iM84, fM840, eM84_53_4, pM84⟩ := q82
    have fM84 : Fr (fun c => c = 53 ∨ c = 59) M M84 := Fr.tr fM81 fM840 (fun _ z => z)
    have q53_4_M84 : id (M84 53 4 = M 53 4) := eM84_53_4.trans q53_4_M81
    clear eM84_53_4
    refine g_callSlp (pc' := 158) (As := [vi a, vl z80, vl z83]) (S := [vr X 53]) dX3_work_155 rfl m_X3_138 w_X3_combined (c_X3_combined X M84 a ha z80 ⟨by omega, by omega⟩ z83 ⟨by omega, by omega⟩) rfl (by decide) (by decide) rfl (Nat.le_of_ble_eq_true rfl) (fun z86 q85 => ?_)
    refine g_callVi (pc' := 161) (As := [vl z86]) (b := 53) (S := []) dX3_work_158 rfl m_X3_120 w_X3_push (c_X3_push X M84 iM84 z86 ⟨by omega, by omega⟩) rfl ⟨_, _, _, rfl, rfl, rfl⟩ (by decide) (by decide) rfl (Nat.le_of_ble_eq_true rfl) (fun z88 M89 q87 => ?_)
    obtain ⟨iM89, fM890, eM89_53_4, pM89⟩ := q87
    have fM89 : Fr (fun c => c = 53 ∨ c = 59) M M89 := Fr.tr fM84 fM890 (fun _ z => z)
    have q53_4_M89 : id (M89 53 4 = M 53 4) := eM89_53_4.trans q53_4_M84
    clear eM89_53_4
    refine g_zreturn dX3_work_161 (by omega) ?_
    exact ⟨iM89, fM89, q53_4_M89, by omega⟩
  by_cases c90 : a = 11
  · refine g_tabIn (tgt := 145) (off := 140) ha dX3_work_5 (by omega) (by omega) (by rw [c90]; rfl) rfl ?_
    refine g_aload_n (pc' := 146) 1 dX3_work_145 rfl rfl ?_
    refine g_iload_n (pc' := 147) 2 dX3_work_146 rfl rfl ?_
    refine g_aload_n (pc' := 148) 1 dX3_work_147 rfl rfl ?_
    refine g_callVl (pc' := 151) (As := []) (b := 53) (S := [vi a, vr X 53]) dX3_work_148 rfl m_X3_134 w_X3_pop (c_X3_pop X M hi) rfl ⟨_, _, _, rfl, rfl, rfl⟩ (by decide) (by decide) rfl (Nat.le_of_ble_eq_true rfl) (fun z92 M93 q91 => ?_)
    obtain ⟨iM93, fM930, eM93_53_4, pM93⟩ := q91
    have fM93 : Fr (fun c => c = 53 ∨ c = 59) M M93 := Fr.tr Fr.rf fM930 (fun _ z => z)
    have q53_4_M93 : id (M93 53 4 = M 53 4) := eM93_53_4
    clear eM93_53_4
    refine g_aload_n (pc' := 152) 1 dX3_work_151 rfl rfl ?_
    refine g_callVl (pc' := 155) (As := []) (b := 53) (S := [vl z92, vi a, vr X 53]) dX3_work_152 rfl m_X3_134 w_X3_pop (c_X3_pop X M93 iM93) rfl ⟨_, _, _, rfl, rfl, rfl⟩ (by decide) (by decide) rfl (Nat.le_of_ble_eq_true rfl) (fun z95 M96 q94 => ?_)
    obtain ⟨iM96, fM960, eM96_53_4, pM96⟩ := q94
    have fM96 : Fr (fun c => c = 53 ∨ c = 59) M M96 := Fr.tr fM93 fM960 (fun _ z => z)
    have q53_4_M96 : id (M96 53 4 = M 53 4) := eM96_53_4.trans q53_4_M93
    clear eM96_53_4
    refine g_callSlp (pc' := 158) (As := [vi a, vl z92, vl z95]) (S := [vr X 53]) dX3_work_155 rfl m_X3_138 w_X3_combined (c_X3_combined X M96 a ha z92 ⟨by omega, by omega⟩ z95 ⟨by omega, by omega⟩) rfl (by decide) (by decide) rfl (Nat.le_of_ble_eq_true rfl) (fun z98 q97 => ?_)
    refine g_callVi (pc' := 161) (As := [vl z98]) (b := 53) (S := []) dX3_work_158 rfl m_X3_120 w_X3_push (c_X3_push X M96 iM96 z98 ⟨by omega, by omega⟩) rfl ⟨_, _, _, rfl, rfl, rfl⟩ (by decide) (by decide) rfl (Nat.le_of_ble_eq_true rfl) (fun z100 M101 q99 => ?_)
    obtain ⟨iM101, fM1010, eM101_53_4, pM101⟩ := q99
    have fM101 : Fr (fun c => c = 53 ∨ c = 59) M M101 := Fr.tr fM96 fM1010 (fun _ z => z)
    have q53_4_M101 : id (M101 53 4 = M 53 4) := eM101_53_4.trans q53_4_M96
    clear eM101_53_4
    refine g_zreturn dX3_work_161 (by omega) ?_
    exact ⟨iM101, fM101, q53_4_M101, by omega⟩
  by_cases c102 : a = 12
  · refine g_tabIn (tgt := 145) (off := 140) ha dX3_work_5 (by omega) (by omega) (by rw [c102]; rfl) rfl ?_
    refine g_aload_n (pc' := 146) 1 dX3_work_145 rfl rfl ?_
    refine g_iload_n (pc' := 147) 2 dX3_work_146 rfl rfl ?_
    refine g_aload_n (pc' := 148) 1 dX3_work_147 rfl rfl ?_
    refine g_callVl (pc' := 151) (As := []) (b := 53) (S := [vi a, vr X 53]) dX3_work_148 rfl m_X3_134 w_X3_pop (c_X3_pop X M hi) rfl ⟨_, _, _, rfl, rfl, rfl⟩ (by decide) (by decide) rfl (Nat.le_of_ble_eq_true rfl) (fun z104 M105 q103 => ?_)
    obtain ⟨iM105, fM1050, eM105_53_4, pM105⟩ := q103
    have fM105 : Fr (fun c => c = 53 ∨ c = 59) M M105 := Fr.tr Fr.rf fM1050 (fun _ z => z)
    have q53_4_M105 : id (M105 53 4 = M 53 4) := eM105_53_4
    clear eM105_53_4
    refine g_aload_n (pc' := 152) 1 dX3_work_151 rfl rfl ?_
    refine g_callVl (pc' := 155) (As := []) (b := 53) (S := [vl z104, vi a, vr X 53]) dX3_work_152 rfl m_X3_134 w_X3_pop (c_X3_pop X M105 iM105) rfl ⟨_, _, _, rfl, rfl, rfl⟩ (by decide) (by decide) rfl (Nat.le_of_ble_eq_true rfl) (fun z107 M108 q106 => ?_)
    obtain ⟨iM108, fM1080, eM108_53_4, pM108⟩ := q106
    have fM108 : Fr (fun c => c = 53 ∨ c = 59) M M108 := Fr.tr fM105 fM1080 (fun _ z => z)
    have q53_4_M108 : id (M108 53 4 = M 53 4) := eM108_53_4.trans q53_4_M105
    clear eM108_53_4
    refine g_callSlp (pc' := 158) (As := [vi a, vl z104, vl z107]) (S := [vr X 53]) dX3_work_155 rfl m_X3_138 w_X3_combined (c_X3_combined X M108 a ha z104 ⟨by omega, by omega⟩ z107 ⟨by omega, by omega⟩) rfl (by decide) (by decide) rfl (Nat.le_of_ble_eq_true rfl) (fun z110 q109 => ?_)
    refine g_callVi (pc' := 161) (As := [vl z110]) (b := 53) (S := []) dX3_work_158 rfl m_X3_120 w_X3_push (c_X3_push X M108 iM108 z110 ⟨by omega, by omega⟩) rfl ⟨_, _, _, rfl, rfl, rfl⟩ (by decide) (by decide) rfl (Nat.le_of_ble_eq_true rfl) (fun z112 M113 q111 => ?_)
    obtain ⟨iM113, fM1130, eM113_53_4, pM113⟩ := q111
    have fM113 : Fr (fun c => c = 53 ∨ c = 59) M M113 := Fr.tr fM108 fM1130 (fun _ z => z)
    have q53_4_M113 : id (M113 53 4 = M 53 4) := eM113_53_4.trans q53_4_M108
    clear eM113_53_4
    refine g_zreturn dX3_work_161 (by omega) ?_
    exact ⟨iM113, fM113, q53_4_M113, by omega⟩
  by_cases c114 : a = 13
  · refine g_tabIn (tgt := 134) (off := 129) ha dX3_work_5 (by omega) (by omega) (by rw [c114]; rfl) rfl ?_
    refine g_aload_n (pc' := 135) 1 dX3_work_134 rfl rfl ?_
    refine g_lconst (pc' := 136) (v := 1) dX3_work_135 rfl (by decide) ?_
    refine g_aload_n (pc' := 137) 1 dX3_work_136 rfl rfl ?_
    refine g_callVl (pc' := 140) (As := []) (b := 53) (S := [vl 1, vr X 53]) dX3_work_137 rfl m_X3_134 w_X3_pop (c_X3_pop X M hi) rfl ⟨_, _, _, rfl, rfl, rfl⟩ (by decide) (by decide) rfl (Nat.le_of_ble_eq_true rfl) (fun z116 M117 q115 => ?_)
    obtain ⟨iM117, fM1170, eM117_53_4, pM117⟩ := q115
    have fM117 : Fr (fun c => c = 53 ∨ c = 59) M M117 := Fr.tr Fr.rf fM1170 (fun _ z => z)
    have q53_4_M117 : id (M117 53 4 = M 53 4) := eM117_53_4
    clear eM117_53_4
    refine g_lsub (pc' := 141) dX3_work_140 rfl ?_
    refine g_nrmL (fun n118 rn118 en118 => ?_)
    refine g_callVi (pc' := 144) (As := [vl n118]) (b := 53) (S := []) dX3_work_141 rfl m_X3_120 w_X3_push (c_X3_push X M117 iM117 n118 rn118) rfl ⟨_, _, _, rfl, rfl, rfl⟩ (by decide) (by decide) rfl (Nat.le_of_ble_eq_true rfl) (fun z120 M121 q119 => ?_)
    obtain ⟨iM121, fM1210, eM121_53_4, pM121⟩ := q119
    have fM121 : Fr (fun c => c = 53 ∨ c = 59) M M121 := Fr.tr fM117 fM1210 (fun _ z => z)
    have q53_4_M121 : id (M121 53 4 = M 53 4) := eM121_53_4.trans q53_4_M117
    clear eM121_53_4
    refine g_zreturn dX3_work_144 (by omega) ?_
    exact ⟨iM121, fM121, q53_4_M121, by omega⟩
  refine g_tabOut (tgt := 145) ha dX3_work_5 (by omega) rfl ?_
  refine g_aload_n (pc' := 146) 1 dX3_work_145 rfl rfl ?_
  refine g_iload_n (pc' := 147) 2 dX3_work_146 rfl rfl ?_
  refine g_aload_n (pc' := 148) 1 dX3_work_147 rfl rfl ?_
  refine g_callVl (pc' := 151) (As := []) (b := 53) (S := [vi a, vr X 53]) dX3_work_148 rfl m_X3_134 w_X3_pop (c_X3_pop X M hi) rfl ⟨_, _, _, rfl, rfl, rfl⟩ (by decide) (by decide) rfl (Nat.le_of_ble_eq_true rfl) (fun z124 M125 q123 => ?_)
  obtain ⟨iM125, fM1250, eM125_53_4, pM125⟩ := q123
  have fM125 : Fr (fun c => c = 53 ∨ c = 59) M M125 := Fr.tr Fr.rf fM1250 (fun _ z => z)
  have q53_4_M125 : id (M125 53 4 = M 53 4) := eM125_53_4
  clear eM125_53_4
  refine g_aload_n (pc' := 152) 1 dX3_work_151 rfl rfl ?_
  refine g_callVl (pc' := 155) (As := []) (b := 53) (S := [vl z124, vi a, vr X 53]) dX3_work_152 rfl m_X3_134 w_X3_pop (c_X3_pop X M125 iM125) rfl ⟨_, _, _, rfl, rfl, rfl⟩ (by decide) (by decide) rfl (Nat.le_of_ble_eq_true rfl) (fun z127 M128 q126 => ?_)
  obtain ⟨iM128, fM1280, eM128_53_4, pM128⟩ := q126
  have fM128 : Fr (fun c => c = 53 ∨ c = 59) M M128 := Fr.tr fM125 fM1280 (fun _ z => z)
  have q53_4_M128 : id (M128 53 4 = M 53 4) := eM128_53_4.trans q53_4_M125
  clear eM128_53_4
  refine g_callSlp (pc' := 158) (As := [vi a, vl z124, vl z127]) (S := [vr X 53]) dX3_work_155 rfl m_X3_138 w_X3_combined (c_X3_combined X M128 a ha z124 ⟨by omega, by omega⟩ z127 ⟨by omega, by omega⟩) rfl (by decide) (by decide) rfl (Nat.le_of_ble_eq_true rfl) (fun z130 q129 => ?_)
  refine g_callVi (pc' := 161) (As := [vl z130]) (b := 53) (S := []) dX3_work_158 rfl m_X3_120 w_X3_push (c_X3_push X M128 iM128 z130 ⟨by omega, by omega⟩) rfl ⟨_, _, _, rfl, rfl, rfl⟩ (by decide) (by decide) rfl (Nat.le_of_ble_eq_true rfl) (fun z132 M133 q131 => ?_)
  obtain ⟨iM133, fM1330, eM133_53_4, pM133⟩ := q131
  have fM133 : Fr (fun c => c = 53 ∨ c = 59) M M133 := Fr.tr fM128 fM1330 (fun _ z => z)
  have q53_4_M133 : id (M133 53 4 = M 53 4) := eM133_53_4.trans q53_4_M128
  clear eM133_53_4
  refine g_zreturn dX3_work_161 (by omega) ?_
  exact ⟨iM133, fM133, q53_4_M133, by omega⟩
set_option maxHeartbeats 4000000 in
set_option maxRecDepth 100000 in
theorem l_X3_works_11 (X : Cx) (M : Mm) (hi : IC M) (a : Int) (ha : inI a) (b : Int) (hb : inI b) (ha0 : 0 ≤ a) : ∀ (kk : Nat) (go : Int) (i : Int) (M1 : Mm) (ic1 : IC M1) (fr1 : Fr (fun c => c = 53 ∨ c = 59) M M1) (q53_4 : id (M1 53 4 = M 53 4)) (hg : inI go) (h0 : 0 ≤ i) (h1 : i ≤ 2147483647), (2147483647 - i).toNat = kk → G X 3 RX3 cX3_works 8 (some .boolean) (Qi (fun r M1 => IC M1 ∧ Fr (fun c => c = 53 ∨ c = 59) M M1 ∧ M1 53 4 = M 53 4 ∧ (r = 0 ∨ r = 1))) 11 [(4, vi go), (5, vi i), (0, vr X 53), (1, vr X 37), (3, vi b)] [] M1 := by
  intro kk
  induction kk using Nat.strongRecOn with
  | ind kk ih =>
    intro go i M1 ic1 fr1 q53_4 hg h0 h1 hmes
    refine g_iload (pc' := 13) 1 dX3_works_11 rfl rfl ?_
    refine g_iload_n (pc' := 14) 4 dX3_works_13 rfl rfl ?_
    refine g_ic_ge (pc' := 17) (tgt := 108) ⟨by omega, by omega⟩ hb dX3_works_14 rfl rfl (fun c1 => ?_) (fun c1 => ?_)
    · refine g_aload_n (pc' := 109) 2 dX3_works_108 rfl rfl ?_
      refine g_getI (pc' := 112) dX3_works_109 rfl f_X3_99 rfl rfl (fun v2 ev2 rv2 => ?_)
      have bv2 : 0 ≤ v2 ∧ v2 ≤ 50 := by rw [ev2]; exact ic1.2.2.2.2
      refine g_iconst (pc' := 113) dX3_works_112 rfl ?_
      refine g_ic_ne (pc' := 116) (tgt := 120) rv2 (by decide) dX3_works_113 rfl rfl (fun c3 => ?_) (fun c3 => ?_)
      · refine g_iconst (pc' := 121) dX3_works_120 rfl ?_
        refine g_zreturn dX3_works_121 (by omega) ?_
        exact ⟨ic1, fr1, q53_4, by omega⟩
      · refine g_iconst (pc' := 117) dX3_works_116 rfl ?_
        refine g_goto (tgt := 121) dX3_works_117 rfl ?_
        refine g_zreturn dX3_works_121 (by omega) ?_
        exact ⟨ic1, fr1, q53_4, by omega⟩
    · refine g_iload (pc' := 19) 1 dX3_works_17 rfl rfl ?_
      refine g_aload_n (pc' := 20) 3 dX3_works_19 rfl rfl ?_
      refine g_getI (pc' := 23) dX3_works_20 rfl f_X3_102 rfl rfl (fun v4 ev4 rv4 => ?_)
      have bv4 : 0 ≤ v4 ∧ v4 ≤ 400 := by rw [ev4]; exact ic1.2.2.2.1.1
      refine g_ic_ge (pc' := 26) (tgt := 108) ⟨by omega, by omega⟩ rv4 dX3_works_23 rfl rfl (fun c5 => ?_) (fun c5 => ?_)
      · refine g_aload_n (pc' := 109) 2 dX3_works_108 rfl rfl ?_
        refine g_getI (pc' := 112) dX3_works_109 rfl f_X3_99 rfl rfl (fun v6 ev6 rv6 => ?_)
        have bv6 : 0 ≤ v6 ∧ v6 ≤ 50 := by rw [ev6]; exact ic1.2.2.2.2
        refine g_iconst (pc' := 113) dX3_works_112 rfl ?_
        refine g_ic_ne (pc' := 116) (tgt := 120) rv6 (by decide) dX3_works_113 rfl rfl (fun c7 => ?_) (fun c7 => ?_)
        · refine g_iconst (pc' := 121) dX3_works_120 rfl ?_
          refine g_zreturn dX3_works_121 (by omega) ?_
          exact ⟨ic1, fr1, q53_4, by omega⟩
        · refine g_iconst (pc' := 117) dX3_works_116 rfl ?_
          refine g_goto (tgt := 121) dX3_works_117 rfl ?_
          refine g_zreturn dX3_works_121 (by omega) ?_
          exact ⟨ic1, fr1, q53_4, by omega⟩
      · refine g_aload_n (pc' := 27) 3 dX3_works_26 rfl rfl ?_
        refine g_getR (pc' := 30) dX3_works_27 rfl f_X3_105 rfl rfl ?_
        refine g_iload (pc' := 32) 1 dX3_works_30 rfl rfl ?_
        refine g_iald (pc' := 33) dX3_works_32 rfl rfl (by omega) (by omega) (fun v8 ev8 rv8 => ?_)
        refine g_istore (pc' := 35) (L' := [(6, vi v8), (4, vi go), (5, vi i), (0, vr X 53), (1, vr X 37), (3, vi b)]) dX3_works_33 rfl (by decide) rfl ?_
        refine g_aload_n (pc' := 36) 4 dX3_works_35 rfl rfl ?_
        refine g_getR (pc' := 39) dX3_works_36 rfl f_X3_109 rfl rfl ?_
        refine g_iload (pc' := 41) 2 dX3_works_39 rfl rfl ?_
        refine g_iald (pc' := 42) dX3_works_41 rfl rfl (by omega) (by omega) (fun v9 ev9 rv9 => ?_)
        refine g_istore (pc' := 44) (L' := [(7, vi v9), (6, vi v8), (4, vi go), (5, vi i), (0, vr X 53), (1, vr X 37), (3, vi b)]) dX3_works_42 rfl (by decide) rfl ?_
        refine g_iload (pc' := 46) 3 dX3_works_44 rfl rfl ?_
        refine g_iload (pc' := 48) 2 dX3_works_46 rfl rfl ?_
        refine g_ic_ge (pc' := 51) (tgt := 54) ⟨by omega, by omega⟩ ⟨by omega, by omega⟩ dX3_works_48 rfl rfl (fun c10 => ?_) (fun c10 => ?_)
        · refine g_iload (pc' := 56) 1 dX3_works_54 rfl rfl ?_
          refine g_bipush (pc' := 58) (v := 14) dX3_works_56 rfl (by decide) ?_
          refine g_ic_eq (pc' := 61) (tgt := 68) rv8 (by decide) dX3_works_58 rfl rfl (fun c11 => ?_) (fun c11 => ?_)
          · refine g_aload_n (pc' := 69) 4 dX3_works_68 rfl rfl ?_
            refine g_iload (pc' := 71) 1 dX3_works_69 rfl rfl ?_
            refine g_callVi (pc' := 74) (As := [vi v8]) (b := 53) (S := []) dX3_works_71 rfl m_X3_112 w_X3_isSettled (c_X3_isSettled X M1 ic1 v8 rv8) rfl ⟨_, _, _, rfl, rfl, rfl⟩ (by decide) (by decide) rfl (Nat.le_of_ble_eq_true rfl) (fun z13 M14 q12 => ?_)
            obtain ⟨iM14, fM140, eM14_53_4, pM14⟩ := q12
            have fM14 : Fr (fun c => c = 53 ∨ c = 59) M M14 := Fr.tr fr1 fM140 (fun _ z => z)
            have q53_4_M14 : id (M14 53 4 = M 53 4) := eM14_53_4.trans q53_4
            clear eM14_53_4
            refine g_if_eq (pc' := 77) (tgt := 82) ⟨by omega, by omega⟩ dX3_works_74 rfl rfl (fun c15 => ?_) (fun c15 => ?_)
            · refine g_iload (pc' := 84) 2 dX3_works_82 rfl rfl ?_
              refine g_istore (pc' := 86) (L' := [(4, vi go), (7, vi v9), (6, vi v8), (5, vi i), (0, vr X 53), (1, vr X 37), (3, vi b)]) dX3_works_84 rfl (by decide) rfl ?_
              refine g_goto (tgt := 102) dX3_works_86 rfl ?_
              refine g_iinc (pc' := 105) (L' := [(5, vi (i + 1)), (4, vi go), (7, vi v9), (6, vi v8), (0, vr X 53), (1, vr X 37), (3, vi b)]) 3 dX3_works_102 rfl rfl (by decide) rfl ?_
              refine g_goto (tgt := 11) dX3_works_105 rfl ?_
              refine g_sub [1, 0, 4, 5, 6] rfl ?_
              exact ih _ (by omega) go (i + 1) M14 iM14 fM14 q53_4_M14 (by first | assumption | exact ⟨by omega, by omega⟩) (by omega) (by omega) rfl
            · refine g_iload (pc' := 79) 0 dX3_works_77 rfl rfl ?_
              refine g_goto (tgt := 84) dX3_works_79 rfl ?_
              refine g_istore (pc' := 86) (L' := [(4, vi v9), (7, vi v9), (6, vi v8), (5, vi i), (0, vr X 53), (1, vr X 37), (3, vi b)]) dX3_works_84 rfl (by decide) rfl ?_
              refine g_goto (tgt := 102) dX3_works_86 rfl ?_
              refine g_iinc (pc' := 105) (L' := [(5, vi (i + 1)), (4, vi v9), (7, vi v9), (6, vi v8), (0, vr X 53), (1, vr X 37), (3, vi b)]) 3 dX3_works_102 rfl rfl (by decide) rfl ?_
              refine g_goto (tgt := 11) dX3_works_105 rfl ?_
              refine g_sub [1, 0, 4, 5, 6] rfl ?_
              exact ih _ (by omega) v9 (i + 1) M14 iM14 fM14 q53_4_M14 (by first | assumption | exact ⟨by omega, by omega⟩) (by omega) (by omega) rfl
          · refine g_iload (pc' := 63) 1 dX3_works_61 rfl rfl ?_
            refine g_bipush (pc' := 65) (v := 15) dX3_works_63 rfl (by decide) ?_
            refine g_ic_ne (pc' := 68) (tgt := 89) rv8 (by decide) dX3_works_65 rfl rfl (fun c16 => ?_) (fun c16 => ?_)
            · refine g_aload_n (pc' := 90) 4 dX3_works_89 rfl rfl ?_
              refine g_iload (pc' := 92) 1 dX3_works_90 rfl rfl ?_
              refine g_iload (pc' := 94) 0 dX3_works_92 rfl rfl ?_
              refine g_callVi (pc' := 97) (As := [vi v8, vi v9]) (b := 53) (S := []) dX3_works_94 rfl m_X3_116 w_X3_work (c_X3_work X M1 ic1 v8 rv8 v9 rv9) rfl ⟨_, _, _, rfl, rfl, rfl⟩ (by decide) (by decide) rfl (Nat.le_of_ble_eq_true rfl) (fun z18 M19 q17 => ?_)
              obtain ⟨iM19, fM190, eM19_53_4, pM19⟩ := q17
              have fM19 : Fr (fun c => c = 53 ∨ c = 59) M M19 := Fr.tr fr1 fM190 (fun _ z => z)
              have q53_4_M19 : id (M19 53 4 = M 53 4) := eM19_53_4.trans q53_4
              clear eM19_53_4
              refine g_if_ne (pc' := 100) (tgt := 102) ⟨by omega, by omega⟩ dX3_works_97 rfl rfl (fun c20 => ?_) (fun c20 => ?_)
              · refine g_iinc (pc' := 105) (L' := [(5, vi (i + 1)), (7, vi v9), (6, vi v8), (4, vi go), (0, vr X 53), (1, vr X 37), (3, vi b)]) 3 dX3_works_102 rfl rfl (by decide) rfl ?_
                refine g_goto (tgt := 11) dX3_works_105 rfl ?_
                refine g_sub [3, 0, 4, 5, 6] rfl ?_
                exact ih _ (by omega) go (i + 1) M19 iM19 fM19 q53_4_M19 (by first | assumption | exact ⟨by omega, by omega⟩) (by omega) (by omega) rfl
              · refine g_iconst (pc' := 101) dX3_works_100 rfl ?_
                refine g_zreturn dX3_works_101 (by omega) ?_
                exact ⟨iM19, fM19, q53_4_M19, by omega⟩
            · refine g_aload_n (pc' := 69) 4 dX3_works_68 rfl rfl ?_
              refine g_iload (pc' := 71) 1 dX3_works_69 rfl rfl ?_
              refine g_callVi (pc' := 74) (As := [vi v8]) (b := 53) (S := []) dX3_works_71 rfl m_X3_112 w_X3_isSettled (c_X3_isSettled X M1 ic1 v8 rv8) rfl ⟨_, _, _, rfl, rfl, rfl⟩ (by decide) (by decide) rfl (Nat.le_of_ble_eq_true rfl) (fun z22 M23 q21 => ?_)
              obtain ⟨iM23, fM230, eM23_53_4, pM23⟩ := q21
              have fM23 : Fr (fun c => c = 53 ∨ c = 59) M M23 := Fr.tr fr1 fM230 (fun _ z => z)
              have q53_4_M23 : id (M23 53 4 = M 53 4) := eM23_53_4.trans q53_4
              clear eM23_53_4
              refine g_if_eq (pc' := 77) (tgt := 82) ⟨by omega, by omega⟩ dX3_works_74 rfl rfl (fun c24 => ?_) (fun c24 => ?_)
              · refine g_iload (pc' := 84) 2 dX3_works_82 rfl rfl ?_
                refine g_istore (pc' := 86) (L' := [(4, vi go), (7, vi v9), (6, vi v8), (5, vi i), (0, vr X 53), (1, vr X 37), (3, vi b)]) dX3_works_84 rfl (by decide) rfl ?_
                refine g_goto (tgt := 102) dX3_works_86 rfl ?_
                refine g_iinc (pc' := 105) (L' := [(5, vi (i + 1)), (4, vi go), (7, vi v9), (6, vi v8), (0, vr X 53), (1, vr X 37), (3, vi b)]) 3 dX3_works_102 rfl rfl (by decide) rfl ?_
                refine g_goto (tgt := 11) dX3_works_105 rfl ?_
                refine g_sub [1, 0, 4, 5, 6] rfl ?_
                exact ih _ (by omega) go (i + 1) M23 iM23 fM23 q53_4_M23 (by first | assumption | exact ⟨by omega, by omega⟩) (by omega) (by omega) rfl
              · refine g_iload (pc' := 79) 0 dX3_works_77 rfl rfl ?_
                refine g_goto (tgt := 84) dX3_works_79 rfl ?_
                refine g_istore (pc' := 86) (L' := [(4, vi v9), (7, vi v9), (6, vi v8), (5, vi i), (0, vr X 53), (1, vr X 37), (3, vi b)]) dX3_works_84 rfl (by decide) rfl ?_
                refine g_goto (tgt := 102) dX3_works_86 rfl ?_
                refine g_iinc (pc' := 105) (L' := [(5, vi (i + 1)), (4, vi v9), (7, vi v9), (6, vi v8), (0, vr X 53), (1, vr X 37), (3, vi b)]) 3 dX3_works_102 rfl rfl (by decide) rfl ?_
                refine g_goto (tgt := 11) dX3_works_105 rfl ?_
                refine g_sub [1, 0, 4, 5, 6] rfl ?_
                exact ih _ (by omega) v9 (i + 1) M23 iM23 fM23 q53_4_M23 (by first | assumption | exact ⟨by omega, by omega⟩) (by omega) (by omega) rfl
        · refine g_goto (tgt := 102) dX3_works_51 rfl ?_
          refine g_iinc (pc' := 105) (L' := [(5, vi (i + 1)), (7, vi v9), (6, vi v8), (4, vi go), (0, vr X 53), (1, vr X 37), (3, vi b)]) 3 dX3_works_102 rfl rfl (by decide) rfl ?_
          refine g_goto (tgt := 11) dX3_works_105 rfl ?_
          refine g_sub [3, 0, 4, 5, 6] rfl ?_
          exact ih _ (by omega) go (i + 1) M1 ic1 fr1 q53_4 (by first | assumption | exact ⟨by omega, by omega⟩) (by omega) (by omega) rfl
set_option maxHeartbeats 4000000 in
set_option maxRecDepth 100000 in
theorem c_X3_works (X : Cx) (M : Mm) (hi : IC M) (a : Int) (ha : inI a) (b : Int) (hb : inI b) (ha0 : 0 ≤ a) : Con X 3 yX3_works cX3_works 8 (some .boolean) [vr X 53, vr X 37, vi a, vi b] M (Qi (fun r M1 => IC M1 ∧ Fr (fun c => c = 53 ∨ c = 59) M M1 ∧ M1 53 4 = M 53 4 ∧ (r = 0 ∨ r = 1))) := by
  refine Con.ofG rfl (Nat.le_of_ble_eq_true rfl) ?_
  show G X 3 RX3 cX3_works 8 (some .boolean) (Qi (fun r M1 => IC M1 ∧ Fr (fun c => c = 53 ∨ c = 59) M M1 ∧ M1 53 4 = M 53 4 ∧ (r = 0 ∨ r = 1))) 0 [(0, vr X 53), (1, vr X 37), (2, vi a), (3, vi b)] [] M
  refine g_aload_n (pc' := 1) 0 dX3_works_0 rfl rfl ?_
  refine g_iconst (pc' := 2) dX3_works_1 rfl ?_
  refine g_putI (pc' := 5) dX3_works_2 rfl p_X3_99 rfl rfl (by decide) (fun M1 hM1 => ?_)
  have iM1 : IC M1 := IC.wr hi hM1 (by unfold okw isT; first | decide | omega)
  have fM1 : Fr (fun c => c = 53 ∨ c = 59) M M1 := Fr.wr Fr.rf hM1 (by first | decide | omega | (dsimp only; omega))
  have q53_4_M1 : id (M1 53 4 = M 53 4) := (show M1 53 4 = M 53 4 by rw [hM1]; exact mu_ne _ _ (by first | decide | omega))
  have xM1_53_2 : M1 53 2 = 0 := by rw [hM1]; exact mu_at _ _ _ _
  refine g_iload_n (pc' := 6) 2 dX3_works_5 rfl rfl ?_
  refine g_istore (pc' := 8) (L' := [(4, vi a), (0, vr X 53), (1, vr X 37), (2, vi a), (3, vi b)]) dX3_works_6 rfl (by decide) rfl ?_
  refine g_iload_n (pc' := 9) 3 dX3_works_8 rfl rfl ?_
  refine g_istore (pc' := 11) (L' := [(5, vi a), (4, vi a), (0, vr X 53), (1, vr X 37), (2, vi a), (3, vi b)]) dX3_works_9 rfl (by decide) rfl ?_
  refine g_sub [1, 0, 2, 3, 5] rfl ?_
  exact l_X3_works_11 X M hi a ha b hb ha0 _ a a M1 iM1 fM1 q53_4_M1 (by first | assumption | exact ⟨by omega, by omega⟩) (by omega) (by omega) rfl
set_option maxHeartbeats 4000000 in
set_option maxRecDepth 100000 in
theorem c_X3_isSo (X : Cx) (M : Mm) (hi : IC M) (c : Nat) (hc : 41 ≤ c ∧ c ≤ 52) : Con X 4 yX3_isSo cX3_isSo 3 (some .boolean) [vr X 53, vr X 37, vr X c] M (Qi (fun r M1 => IC M1 ∧ Fr (fun c => c = 53 ∨ c = 59) M M1 ∧ M1 53 4 = M 53 4 ∧ (r = 0 ∨ r = 1))) := by
  refine Con.ofG rfl (Nat.le_of_ble_eq_true rfl) ?_
  show G X 4 RX3 cX3_isSo 3 (some .boolean) (Qi (fun r M1 => IC M1 ∧ Fr (fun c => c = 53 ∨ c = 59) M M1 ∧ M1 53 4 = M 53 4 ∧ (r = 0 ∨ r = 1))) 0 [(0, vr X 53), (1, vr X 37), (2, vr X c)] [] M
  refine g_aload_n (pc' := 1) 2 dX3_isSo_0 rfl rfl ?_
  refine g_getI (pc' := 4) dX3_isSo_1 rfl f_X3_61 (clS hc) rfl (fun v1 ev1 rv1 => ?_)
  refine g_aload_n (pc' := 5) 2 dX3_isSo_4 rfl rfl ?_
  refine g_getI (pc' := 8) dX3_isSo_5 rfl f_X3_64 (clS hc) rfl (fun v2 ev2 rv2 => ?_)
  have bv2 : 0 ≤ v2 := by rw [ev2]; exact (hi.2.2.2.1.2.2 c (by omega) (by omega)).2
  refine g_ic_gt (pc' := 11) (tgt := 13) rv1 rv2 dX3_isSo_8 rfl rfl (fun c3 => ?_) (fun c3 => ?_)
  · refine g_aload_n (pc' := 14) 0 dX3_isSo_13 rfl rfl ?_
    refine g_aload_n (pc' := 15) 1 dX3_isSo_14 rfl rfl ?_
    refine g_aload_n (pc' := 16) 2 dX3_isSo_15 rfl rfl ?_
    refine g_getI (pc' := 19) dX3_isSo_16 rfl f_X3_64 (clS hc) rfl (fun v4 ev4 rv4 => ?_)
    obtain rfl : v2 = v4 := ev2.trans ev4.symm
    refine g_aload_n (pc' := 20) 2 dX3_isSo_19 rfl rfl ?_
    refine g_getI (pc' := 23) dX3_isSo_20 rfl f_X3_61 (clS hc) rfl (fun v5 ev5 rv5 => ?_)
    obtain rfl : v1 = v5 := ev1.trans ev5.symm
    refine g_callVi (pc' := 26) (As := [vr X 37, vi v2, vi v1]) (b := 53) (S := []) dX3_isSo_23 rfl m_X3_67 w_X3_works (c_X3_works X M hi v2 rv2 v1 rv1 (by omega)) rfl ⟨_, _, _, rfl, rfl, rfl⟩ (by decide) (by decide) rfl (Nat.le_of_ble_eq_true rfl) (fun z7 M8 q6 => ?_)
    obtain ⟨iM8, fM80, eM8_53_4, pM8⟩ := q6
    have fM8 : Fr (fun c => c = 53 ∨ c = 59) M M8 := Fr.tr Fr.rf fM80 (fun _ z => z)
    have q53_4_M8 : id (M8 53 4 = M 53 4) := eM8_53_4
    clear eM8_53_4
    refine g_if_eq (pc' := 29) (tgt := 44) ⟨by omega, by omega⟩ dX3_isSo_26 rfl rfl (fun c9 => ?_) (fun c9 => ?_)
    · refine g_iconst (pc' := 45) dX3_isSo_44 rfl ?_
      refine g_zreturn dX3_isSo_45 (by omega) ?_
      exact ⟨iM8, fM8, q53_4_M8, by omega⟩
    · refine g_aload_n (pc' := 30) 0 dX3_isSo_29 rfl rfl ?_
      refine g_getR (pc' := 33) dX3_isSo_30 rfl f_X3_18 rfl rfl ?_
      refine g_iconst (pc' := 34) dX3_isSo_33 rfl ?_
      refine g_lald (pc' := 35) dX3_isSo_34 rfl rfl (by decide) (by decide) (fun v10 ev10 rv10 => ?_)
      refine g_lconst (pc' := 36) (v := 0) dX3_isSo_35 rfl (by decide) ?_
      refine g_lc_eq (pc' := 40) (tgt := 44) rv10 (by decide) dX3_isSo_36 dX3_isSo_37 rfl rfl (fun c11 => ?_) (fun c11 => ?_)
      · refine g_iconst (pc' := 45) dX3_isSo_44 rfl ?_
        refine g_zreturn dX3_isSo_45 (by omega) ?_
        exact ⟨iM8, fM8, q53_4_M8, by omega⟩
      · refine g_iconst (pc' := 41) dX3_isSo_40 rfl ?_
        refine g_goto (tgt := 45) dX3_isSo_41 rfl ?_
        refine g_zreturn dX3_isSo_45 (by omega) ?_
        exact ⟨iM8, fM8, q53_4_M8, by omega⟩
  · refine g_iconst (pc' := 12) dX3_isSo_11 rfl ?_
    refine g_zreturn dX3_isSo_12 (by omega) ?_
    exact ⟨hi, Fr.rf, rfl, by omega⟩
set_option maxHeartbeats 4000000 in
set_option maxRecDepth 100000 in
theorem c_X3_move (X : Cx) (M : Mm) (hi : IC M) (c : Nat) (hc : 41 ≤ c ∧ c ≤ 52) : Con X 4 yX3_move cX3_move 4 (some .int) [vr X 53, vr X 37, vr X c] M (Qi (fun r M1 => IC M1 ∧ Fr (fun c => 53 ≤ c ∧ c ≤ 59) M M1 ∧ M1 53 4 = M 53 4 ∧ M1 54 5 = M 54 5 ∧ (r = 0 ∨ r = -3 ∨ r = -5))) := by
  refine Con.ofG rfl (Nat.le_of_ble_eq_true rfl) ?_
  show G X 4 RX3 cX3_move 4 (some .int) (Qi (fun r M1 => IC M1 ∧ Fr (fun c => 53 ≤ c ∧ c ≤ 59) M M1 ∧ M1 53 4 = M 53 4 ∧ M1 54 5 = M 54 5 ∧ (r = 0 ∨ r = -3 ∨ r = -5))) 0 [(0, vr X 53), (1, vr X 37), (2, vr X c)] [] M
  refine g_aload_n (pc' := 1) 0 dX3_move_0 rfl rfl ?_
  refine g_aload_n (pc' := 2) 1 dX3_move_1 rfl rfl ?_
  refine g_aload_n (pc' := 3) 2 dX3_move_2 rfl rfl ?_
  refine g_getI (pc' := 6) dX3_move_3 rfl f_X3_71 (clS hc) rfl (fun v1 ev1 rv1 => ?_)
  have bv1 : 0 ≤ v1 := by rw [ev1]; exact (hi.2.2.2.1.2.2 c (by omega) (by omega)).1
  refine g_aload_n (pc' := 7) 2 dX3_move_6 rfl rfl ?_
  refine g_getI (pc' := 10) dX3_move_7 rfl f_X3_64 (clS hc) rfl (fun v2 ev2 rv2 => ?_)
  have bv2 : 0 ≤ v2 := by rw [ev2]; exact (hi.2.2.2.1.2.2 c (by omega) (by omega)).2
  refine g_callVi (pc' := 13) (As := [vr X 37, vi v1, vi v2]) (b := 53) (S := []) dX3_move_10 rfl m_X3_67 w_X3_works (c_X3_works X M hi v1 rv1 v2 rv2 (by omega)) rfl ⟨_, _, _, rfl, rfl, rfl⟩ (by decide) (by decide) rfl (Nat.le_of_ble_eq_true rfl) (fun z4 M5 q3 => ?_)
  obtain ⟨iM5, fM50, eM5_53_4, pM5⟩ := q3
  have fM5 : Fr (fun c => 53 ≤ c ∧ c ≤ 59) M M5 := Fr.tr Fr.rf fM50 fi_4
  have q53_4_M5 : id (M5 53 4 = M 53 4) := eM5_53_4
  have q54_5_M5 : id (M5 54 5 = M 54 5) := (congrFun (fM50 54 (by first | decide | omega | (dsimp only; omega))) 5)
  clear eM5_53_4
  refine g_if_eq (pc' := 16) (tgt := 40) ⟨by omega, by omega⟩ dX3_move_13 rfl rfl (fun c6 => ?_) (fun c6 => ?_)
  · refine g_bipush (pc' := 42) (v := (-3)) dX3_move_40 rfl (by decide) ?_
    refine g_ireturn dX3_move_42 ?_
    exact ⟨iM5, fM5, q53_4_M5, q54_5_M5, by omega⟩
  · refine g_aload_n (pc' := 17) 0 dX3_move_16 rfl rfl ?_
    refine g_getR (pc' := 20) dX3_move_17 rfl f_X3_18 rfl rfl ?_
    refine g_iconst (pc' := 21) dX3_move_20 rfl ?_
    refine g_lald (pc' := 22) dX3_move_21 rfl rfl (by decide) (by decide) (fun v7 ev7 rv7 => ?_)
    refine g_lconst (pc' := 23) (v := 1) dX3_move_22 rfl (by decide) ?_
    refine g_lc_lt (pc' := 27) (tgt := 40) rv7 (by decide) dX3_move_23 dX3_move_24 rfl rfl (fun c8 => ?_) (fun c8 => ?_)
    · refine g_bipush (pc' := 42) (v := (-3)) dX3_move_40 rfl (by decide) ?_
      refine g_ireturn dX3_move_42 ?_
      exact ⟨iM5, fM5, q53_4_M5, q54_5_M5, by omega⟩
    · refine g_aload_n (pc' := 28) 0 dX3_move_27 rfl rfl ?_
      refine g_getR (pc' := 31) dX3_move_28 rfl f_X3_18 rfl rfl ?_
      refine g_iconst (pc' := 32) dX3_move_31 rfl ?_
      refine g_lald (pc' := 33) dX3_move_32 rfl rfl (by decide) (by decide) (fun v9 ev9 rv9 => ?_)
      obtain rfl : v7 = v9 := ev7.trans ev9.symm
      refine g_ldc2 (pc' := 36) (v := 60) dX3_move_33 rfl k_X3_74 ?_
      refine g_lc_le (pc' := 40) (tgt := 43) rv7 (by decide) dX3_move_36 dX3_move_37 rfl rfl (fun c10 => ?_) (fun c10 => ?_)
      · refine g_aload_n (pc' := 44) 0 dX3_move_43 rfl rfl ?_
        refine g_getR (pc' := 47) dX3_move_44 rfl f_X3_18 rfl rfl ?_
        refine g_iconst (pc' := 48) dX3_move_47 rfl ?_
        refine g_lald (pc' := 49) dX3_move_48 rfl rfl (by decide) (by decide) (fun v11 ev11 rv11 => ?_)
        obtain rfl : v7 = v11 := ev7.trans ev11.symm
        refine g_l2i (pc' := 50) dX3_move_49 rfl ?_
        refine g_istore_n (pc' := 51) (i := 3) (L' := [(3, vi v7), (0, vr X 53), (1, vr X 37), (2, vr X c)]) dX3_move_50 rfl rfl (by decide) rfl ?_
        refine g_aload_n (pc' := 52) 3 dX3_move_51 rfl rfl ?_
        refine g_getI (pc' := 55) dX3_move_52 rfl f_X3_76 (clS hc) rfl (fun v12 ev12 rv12 => ?_)
        by_cases c13 : v12 = 0
        · refine g_look (tgt := 80) (off := 25) rv12 dX3_move_55 rfl (by rw [c13]; rfl) rfl ?_
          refine g_aload_n (pc' := 81) 1 dX3_move_80 rfl rfl ?_
          refine g_getR (pc' := 84) dX3_move_81 rfl f_X3_12 rfl rfl ?_
          refine g_aload_n (pc' := 85) 3 dX3_move_84 rfl rfl ?_
          refine g_getI (pc' := 88) dX3_move_85 rfl f_X3_79 (clS hc) rfl (fun v14 ev14 rv14 => ?_)
          refine g_aload_n (pc' := 89) 3 dX3_move_88 rfl rfl ?_
          refine g_getI (pc' := 92) dX3_move_89 rfl f_X3_82 (clS hc) rfl (fun v15 ev15 rv15 => ?_)
          refine g_iload_n (pc' := 93) 0 dX3_move_92 rfl rfl ?_
          refine g_callVi (pc' := 96) (As := [vi v14, vi v15, vi v7]) (b := 54) (S := []) dX3_move_93 rfl m_X3_85 w_X7_carry (c_X7_carry X M5 54 isT_54 (iM5.1 _ isT_54) v14 rv14 v15 rv15 v7 ⟨by omega, by omega⟩) rfl ⟨_, _, _, rfl, rfl, rfl⟩ (by decide) (by decide) rfl (Nat.le_of_ble_eq_true rfl) (fun z17 M18 q16 => ?_)
          obtain ⟨kM18, fM180, gM180, pM18⟩ := q16
          have iM18 : IC M18 := IC.ofT iM5 isT_54 fM180 kM18
          have fM18 : Fr (fun c => 53 ≤ c ∧ c ≤ 59) M M18 := Fr.tr fM5 fM180 (fun c z => by unfold inT at z; first | omega | (dsimp only; omega))
          have q53_4_M18 : id (M18 53 4 = M 53 4) := (congrFun (fM180 53 (by unfold inT; first | decide | omega)) 4).trans q53_4_M5
          have q54_5_M18 : id (M18 54 5 = M 54 5) := gM180.trans q54_5_M5
          refine g_ireturn dX3_move_96 ?_
          exact ⟨iM18, fM18, q53_4_M18, q54_5_M18, by omega⟩
        by_cases c19 : v12 = 1
        · refine g_look (tgt := 97) (off := 42) rv12 dX3_move_55 rfl (by rw [c19]; rfl) rfl ?_
          refine g_aload_n (pc' := 98) 1 dX3_move_97 rfl rfl ?_
          refine g_getR (pc' := 101) dX3_move_98 rfl f_X3_12 rfl rfl ?_
          refine g_aload_n (pc' := 102) 3 dX3_move_101 rfl rfl ?_
          refine g_getI (pc' := 105) dX3_move_102 rfl f_X3_79 (clS hc) rfl (fun v20 ev20 rv20 => ?_)
          refine g_iload_n (pc' := 106) 0 dX3_move_105 rfl rfl ?_
          refine g_callVi (pc' := 109) (As := [vi v20, vi v7]) (b := 54) (S := []) dX3_move_106 rfl m_X3_89 w_X7_takeOut (c_X7_takeOut X M5 54 isT_54 (iM5.1 _ isT_54) v20 rv20 v7 ⟨by omega, by omega⟩) rfl ⟨_, _, _, rfl, rfl, rfl⟩ (by decide) (by decide) rfl (Nat.le_of_ble_eq_true rfl) (fun z22 M23 q21 => ?_)
          obtain ⟨kM23, fM230, gM230, pM23⟩ := q21
          have iM23 : IC M23 := IC.ofT iM5 isT_54 fM230 kM23
          have fM23 : Fr (fun c => 53 ≤ c ∧ c ≤ 59) M M23 := Fr.tr fM5 fM230 (fun c z => by unfold inT at z; first | omega | (dsimp only; omega))
          have q53_4_M23 : id (M23 53 4 = M 53 4) := (congrFun (fM230 53 (by unfold inT; first | decide | omega)) 4).trans q53_4_M5
          have q54_5_M23 : id (M23 54 5 = M 54 5) := gM230.trans q54_5_M5
          refine g_ireturn dX3_move_109 ?_
          exact ⟨iM23, fM23, q53_4_M23, q54_5_M23, by omega⟩
        refine g_look (tgt := 110) (off := 55) rv12 dX3_move_55 rfl (by simp [Op.lookupswitch.offset, Ne.symm c13, Ne.symm c19]) rfl ?_
        refine g_aload_n (pc' := 111) 1 dX3_move_110 rfl rfl ?_
        refine g_getR (pc' := 114) dX3_move_111 rfl f_X3_12 rfl rfl ?_
        refine g_aload_n (pc' := 115) 3 dX3_move_114 rfl rfl ?_
        refine g_getI (pc' := 118) dX3_move_115 rfl f_X3_82 (clS hc) rfl (fun v24 ev24 rv24 => ?_)
        refine g_aload_n (pc' := 119) 3 dX3_move_118 rfl rfl ?_
        refine g_getI (pc' := 122) dX3_move_119 rfl f_X3_93 (clS hc) rfl (fun v25 ev25 rv25 => ?_)
        refine g_iload_n (pc' := 123) 0 dX3_move_122 rfl rfl ?_
        refine g_callVi (pc' := 126) (As := [vi v24, vi v25, vi v7]) (b := 54) (S := []) dX3_move_123 rfl m_X3_96 w_X7_pour (c_X7_pour X M5 54 isT_54 (iM5.1 _ isT_54) v24 rv24 v25 rv25 v7 ⟨by omega, by omega⟩) rfl ⟨_, _, _, rfl, rfl, rfl⟩ (by decide) (by decide) rfl (Nat.le_of_ble_eq_true rfl) (fun z27 M28 q26 => ?_)
        obtain ⟨kM28, fM280, gM280, pM28⟩ := q26
        have iM28 : IC M28 := IC.ofT iM5 isT_54 fM280 kM28
        have fM28 : Fr (fun c => 53 ≤ c ∧ c ≤ 59) M M28 := Fr.tr fM5 fM280 (fun c z => by unfold inT at z; first | omega | (dsimp only; omega))
        have q53_4_M28 : id (M28 53 4 = M 53 4) := (congrFun (fM280 53 (by unfold inT; first | decide | omega)) 4).trans q53_4_M5
        have q54_5_M28 : id (M28 54 5 = M 54 5) := gM280.trans q54_5_M5
        refine g_ireturn dX3_move_126 ?_
        exact ⟨iM28, fM28, q53_4_M28, q54_5_M28, by omega⟩
      · refine g_bipush (pc' := 42) (v := (-3)) dX3_move_40 rfl (by decide) ?_
        refine g_ireturn dX3_move_42 ?_
        exact ⟨iM5, fM5, q53_4_M5, q54_5_M5, by omega⟩
set_option maxHeartbeats 4000000 in
set_option maxRecDepth 100000 in
theorem l_X3_runClause_2 (X : Cx) (M : Mm) (hi : IC M) (c : Nat) (hc : 41 ≤ c ∧ c ≤ 52) : ∀ (kk : Nat) (i : Int) (M1 : Mm) (ic1 : IC M1) (fr1 : Fr (fun c => 53 ≤ c ∧ c ≤ 59) M M1) (q53_4 : id (M1 53 4 = M 53 4)) (q54_5 : id (M1 54 5 = M 54 5)) (h0 : 0 ≤ i) (h1 : i ≤ 2147483647), (2147483647 - i).toNat = kk → G X 5 RX3 cX3_runClause 5 (some .int) (Qi (fun r M1 => IC M1 ∧ Fr (fun c => 53 ≤ c ∧ c ≤ 59) M M1 ∧ M1 53 4 = M 53 4 ∧ M1 54 5 = M 54 5 ∧ (r = 0 ∨ r = -3 ∨ r = -5))) 2 [(3, vi i), (0, vr X 53), (1, vr X 37), (2, vr X c)] [] M1 := by
  intro kk
  induction kk using Nat.strongRecOn with
  | ind kk ih =>
    intro i M1 ic1 fr1 q53_4 q54_5 h0 h1 hmes
    refine g_iload_n (pc' := 3) 0 dX3_runClause_2 rfl rfl ?_
    refine g_aload_n (pc' := 4) 3 dX3_runClause_3 rfl rfl ?_
    refine g_getI (pc' := 7) dX3_runClause_4 rfl f_X3_49 (clS hc) rfl (fun v1 ev1 rv1 => ?_)
    refine g_ic_ge (pc' := 10) (tgt := 51) ⟨by omega, by omega⟩ rv1 dX3_runClause_7 rfl rfl (fun c2 => ?_) (fun c2 => ?_)
    · refine g_iconst (pc' := 52) dX3_runClause_51 rfl ?_
      refine g_ireturn dX3_runClause_52 ?_
      exact ⟨ic1, fr1, q53_4, q54_5, by omega⟩
    · refine g_aload_n (pc' := 11) 1 dX3_runClause_10 rfl rfl ?_
      refine g_aload_n (pc' := 12) 2 dX3_runClause_11 rfl rfl ?_
      refine g_aload_n (pc' := 13) 3 dX3_runClause_12 rfl rfl ?_
      refine g_callVi (pc' := 16) (As := [vr X 37, vr X c]) (b := 53) (S := []) dX3_runClause_13 rfl m_X3_54 w_X3_isSo (c_X3_isSo X M1 ic1 c hc) rfl ⟨_, _, _, rfl, rfl, rfl⟩ (by decide) (by decide) rfl (Nat.le_of_ble_eq_true rfl) (fun z4 M5 q3 => ?_)
      obtain ⟨iM5, fM50, eM5_53_4, pM5⟩ := q3
      have fM5 : Fr (fun c => 53 ≤ c ∧ c ≤ 59) M M5 := Fr.tr fr1 fM50 fi_4
      have q53_4_M5 : id (M5 53 4 = M 53 4) := eM5_53_4.trans q53_4
      have q54_5_M5 : id (M5 54 5 = M 54 5) := (congrFun (fM50 54 (by first | decide | omega | (dsimp only; omega))) 5).trans q54_5
      clear eM5_53_4
      refine g_if_eq (pc' := 19) (tgt := 45) ⟨by omega, by omega⟩ dX3_runClause_16 rfl rfl (fun c6 => ?_) (fun c6 => ?_)
      · refine g_iinc (pc' := 48) (L' := [(3, vi (i + 1)), (0, vr X 53), (1, vr X 37), (2, vr X c)]) 0 dX3_runClause_45 rfl rfl (by decide) rfl ?_
        refine g_goto (tgt := 2) dX3_runClause_48 rfl ?_
        refine g_sub [0, 1, 2, 3] rfl ?_
        exact ih _ (by omega) (i + 1) M5 iM5 fM5 q53_4_M5 q54_5_M5 (by omega) (by omega) rfl
      · refine g_aload_n (pc' := 20) 1 dX3_runClause_19 rfl rfl ?_
        refine g_aload_n (pc' := 21) 2 dX3_runClause_20 rfl rfl ?_
        refine g_aload_n (pc' := 22) 3 dX3_runClause_21 rfl rfl ?_
        refine g_callVi (pc' := 25) (As := [vr X 37, vr X c]) (b := 53) (S := []) dX3_runClause_22 rfl m_X3_58 w_X3_move (c_X3_move X M5 iM5 c hc) rfl ⟨_, _, _, rfl, rfl, rfl⟩ (by decide) (by decide) rfl (Nat.le_of_ble_eq_true rfl) (fun z8 M9 q7 => ?_)
        obtain ⟨iM9, fM90, eM9_53_4, eM9_54_5, pM9⟩ := q7
        have fM9 : Fr (fun c => 53 ≤ c ∧ c ≤ 59) M M9 := Fr.tr fM5 fM90 (fun _ z => z)
        have q53_4_M9 : id (M9 53 4 = M 53 4) := eM9_53_4.trans q53_4_M5
        have q54_5_M9 : id (M9 54 5 = M 54 5) := eM9_54_5.trans q54_5_M5
        clear eM9_53_4 eM9_54_5
        refine g_istore (pc' := 27) (L' := [(4, vi z8), (3, vi i), (0, vr X 53), (1, vr X 37), (2, vr X c)]) dX3_runClause_25 rfl (by decide) rfl ?_
        refine g_iload (pc' := 29) 0 dX3_runClause_27 rfl rfl ?_
        refine g_if_ge (pc' := 32) (tgt := 35) ⟨by omega, by omega⟩ dX3_runClause_29 rfl rfl (fun c10 => ?_) (fun c10 => ?_)
        · refine g_aload_n (pc' := 36) 2 dX3_runClause_35 rfl rfl ?_
          refine g_dup (pc' := 37) dX3_runClause_36 rfl rfl ?_
          refine g_getI (pc' := 40) dX3_runClause_37 rfl f_X3_26 rfl rfl (fun v11 ev11 rv11 => ?_)
          refine g_iconst (pc' := 41) dX3_runClause_40 rfl ?_
          refine g_iadd (pc' := 42) dX3_runClause_41 rfl ?_
          refine g_nrmI (fun n12 rn12 en12 => ?_)
          have bn12 : (-2147483648 ≤ v11 + 1 ∧ v11 + 1 ≤ 2147483647) → n12 = v11 + 1 := fun h => en12.trans (bm32 h)
          refine g_putI (pc' := 45) dX3_runClause_42 rfl p_X3_26 rfl rfl rn12 (fun M13 hM13 => ?_)
          have iM13 : IC M13 := IC.wr iM9 hM13 (by unfold okw isT; first | decide | omega)
          have fM13 : Fr (fun c => 53 ≤ c ∧ c ≤ 59) M M13 := Fr.wr fM9 hM13 (by first | decide | omega | (dsimp only; omega))
          have q53_4_M13 : id (M13 53 4 = M 53 4) := (show M13 53 4 = M9 53 4 by rw [hM13]; exact mu_ne _ _ (by first | decide | omega)).trans q53_4_M9
          have q54_5_M13 : id (M13 54 5 = M 54 5) := (show M13 54 5 = M9 54 5 by rw [hM13]; exact mu_ne _ _ (by first | decide | omega)).trans q54_5_M9
          have xM13_53_3 : M13 53 3 = n12 := by rw [hM13]; exact mu_at _ _ _ _
          refine g_iinc (pc' := 48) (L' := [(3, vi (i + 1)), (4, vi z8), (0, vr X 53), (1, vr X 37), (2, vr X c)]) 1 dX3_runClause_45 rfl rfl (by decide) rfl ?_
          refine g_goto (tgt := 2) dX3_runClause_48 rfl ?_
          refine g_sub [0, 2, 3, 4] rfl ?_
          exact ih _ (by omega) (i + 1) M13 iM13 fM13 q53_4_M13 q54_5_M13 (by omega) (by omega) rfl
        · refine g_iload (pc' := 34) 0 dX3_runClause_32 rfl rfl ?_
          refine g_ireturn dX3_runClause_34 ?_
          exact ⟨iM9, fM9, q53_4_M9, q54_5_M9, by omega⟩
set_option maxHeartbeats 4000000 in
set_option maxRecDepth 100000 in
theorem c_X3_runClause (X : Cx) (M : Mm) (hi : IC M) (c : Nat) (hc : 41 ≤ c ∧ c ≤ 52) : Con X 5 yX3_runClause cX3_runClause 5 (some .int) [vr X 53, vr X 37, vr X c] M (Qi (fun r M1 => IC M1 ∧ Fr (fun c => 53 ≤ c ∧ c ≤ 59) M M1 ∧ M1 53 4 = M 53 4 ∧ M1 54 5 = M 54 5 ∧ (r = 0 ∨ r = -3 ∨ r = -5))) := by
  refine Con.ofG rfl (Nat.le_of_ble_eq_true rfl) ?_
  show G X 5 RX3 cX3_runClause 5 (some .int) (Qi (fun r M1 => IC M1 ∧ Fr (fun c => 53 ≤ c ∧ c ≤ 59) M M1 ∧ M1 53 4 = M 53 4 ∧ M1 54 5 = M 54 5 ∧ (r = 0 ∨ r = -3 ∨ r = -5))) 0 [(0, vr X 53), (1, vr X 37), (2, vr X c)] [] M
  refine g_iconst (pc' := 1) dX3_runClause_0 rfl ?_
  refine g_istore_n (pc' := 2) (i := 3) (L' := [(3, vi 0), (0, vr X 53), (1, vr X 37), (2, vr X c)]) dX3_runClause_1 rfl rfl (by decide) rfl ?_
  refine g_sub [0, 1, 2, 3] rfl ?_
  exact l_X3_runClause_2 X M hi c hc _ 0 M hi Fr.rf rfl rfl (by omega) (by omega) rfl
set_option maxHeartbeats 4000000 in
set_option maxRecDepth 100000 in
theorem l_X3_run_18 (X : Cx) (M : Mm) (hi : IC M) : ∀ (kk : Nat)  (M1 : Mm) (ic1 : IC M1) (fr1 : Fr (fun c => (53 ≤ c ∧ c ≤ 59) ∨ (2 ≤ c ∧ c ≤ 6)) M M1) (h0 : 0 ≤ M1 53 4) (h1 : M1 53 4 ≤ 12) (h54 : M1 54 5 = M 2 5) (h25 : M1 2 5 = M 2 5), (12 - M1 53 4).toNat = kk → G X 6 RX3 cX3_run 4 (some .int) (Qi (fun r M1 => IC M1 ∧ Fr (fun c => (53 ≤ c ∧ c ≤ 59) ∨ (2 ≤ c ∧ c ≤ 6)) M M1 ∧ (M1 2 5 = M 2 5 ∧ inI r))) 18 [(0, vr X 53), (1, vr X 37), (2, vr X 2)] [] M1 := by
  intro kk
  induction kk using Nat.strongRecOn with
  | ind kk ih =>
    intro M1 ic1 fr1 h0 h1 h54 h25 hmes
    refine g_aload_n (pc' := 19) 0 dX3_run_18 rfl rfl ?_
    refine g_getI (pc' := 22) dX3_run_19 rfl f_X3_30 rfl rfl (fun v1 ev1 rv1 => ?_)
    refine g_aload_n (pc' := 23) 1 dX3_run_22 rfl rfl ?_
    refine g_getI (pc' := 26) dX3_run_23 rfl f_X3_33 rfl rfl (fun v2 ev2 rv2 => ?_)
    have bv2 : 0 ≤ v2 ∧ v2 ≤ 12 := by rw [ev2]; exact ic1.2.2.2.1.2.1
    refine g_ic_ge (pc' := 29) (tgt := 63) rv1 rv2 dX3_run_26 rfl rfl (fun c3 => ?_) (fun c3 => ?_)
    · refine g_aload_n (pc' := 64) 0 dX3_run_63 rfl rfl ?_
      refine g_getR (pc' := 67) dX3_run_64 rfl f_X3_12 rfl rfl ?_
      refine g_callVv (pc' := 70) (As := []) (b := 54) (S := []) dX3_run_67 rfl m_X3_46 w_X7_toLowestTerms (c_X7_toLowestTerms X M1 54 isT_54 (ic1.1 _ isT_54)) rfl ⟨_, _, _, rfl, rfl, rfl⟩ (by decide) (by decide) rfl (Nat.le_of_ble_eq_true rfl) (fun M5 q4 => ?_)
      obtain ⟨kM5, fM50, gM50⟩ := q4
      have iM5 : IC M5 := IC.ofT ic1 isT_54 fM50 kM5
      have fM5 : Fr (fun c => (53 ≤ c ∧ c ≤ 59) ∨ (2 ≤ c ∧ c ≤ 6)) M M5 := Fr.tr fr1 fM50 (fun c z => by unfold inT at z; first | omega | (dsimp only; omega))
      have q2_5_M5 : (M5 2 5 = M 2 5) := (congrFun (fM50 2 (by unfold inT; first | decide | omega)) 5).trans h25
      have xM5_54_5 : M5 54 5 = M 2 5 := gM50.trans h54
      refine g_aload_n (pc' := 71) 2 dX3_run_70 rfl rfl ?_
      refine g_aload_n (pc' := 72) 0 dX3_run_71 rfl rfl ?_
      refine g_getR (pc' := 75) dX3_run_72 rfl f_X3_12 rfl rfl ?_
      refine g_callVv (pc' := 78) (As := [vr X 54]) (b := 2) (S := []) dX3_run_75 rfl m_X3_22 w_X7_copyFrom (c_X7_copyFrom X M5 2 isT_2 (iM5.1 _ isT_2) 54 isT_54 (iM5.1 _ isT_54) (by decide) (isT.apart isT_2 isT_54 (by decide))) rfl ⟨_, _, _, rfl, rfl, rfl⟩ (by decide) (by decide) rfl (Nat.le_of_ble_eq_true rfl) (fun M7 q6 => ?_)
      obtain ⟨kM7, fM70, gM70⟩ := q6
      have iM7 : IC M7 := IC.ofT iM5 isT_2 fM70 kM7
      have fM7 : Fr (fun c => (53 ≤ c ∧ c ≤ 59) ∨ (2 ≤ c ∧ c ≤ 6)) M M7 := Fr.tr fM5 fM70 (fun c z => by unfold inT at z; first | omega | (dsimp only; omega))
      have xM7_54_5 : M7 54 5 = M 2 5 := (congrFun (fM70 54 (by unfold inT; first | decide | omega)) 5).trans xM5_54_5
      refine g_aload_n (pc' := 79) 0 dX3_run_78 rfl rfl ?_
      refine g_getI (pc' := 82) dX3_run_79 rfl f_X3_26 rfl rfl (fun v8 ev8 rv8 => ?_)
      refine g_ireturn dX3_run_82 ?_
      exact ⟨iM7, fM7, by omega⟩
    · refine g_aload_n (pc' := 30) 0 dX3_run_29 rfl rfl ?_
      refine g_aload_n (pc' := 31) 1 dX3_run_30 rfl rfl ?_
      refine g_aload_n (pc' := 32) 1 dX3_run_31 rfl rfl ?_
      refine g_getR (pc' := 35) dX3_run_32 rfl f_X3_38 rfl rfl ?_
      refine g_aload_n (pc' := 36) 0 dX3_run_35 rfl rfl ?_
      refine g_getI (pc' := 39) dX3_run_36 rfl f_X3_30 rfl rfl (fun v9 ev9 rv9 => ?_)
      obtain rfl : v1 = v9 := ev1.trans ev9.symm
      refine g_aald (pc' := 40) (t := 1) (C := RX0) dX3_run_39 rfl rfl (fun _ => rfl) (by omega) (by omega) ?_
      obtain ⟨k10, ek10⟩ : ∃ z : Nat, z = ([41, 42, 43, 44, 45, 46, 47, 48, 49, 50, 51, 52] : List Nat).getD v1.toNat 0 := ⟨_, rfl⟩
      rw [← ek10]
      have hk10 : 41 ≤ k10 ∧ k10 ≤ 52 := by rw [ek10]; exact clD v1.toNat (by omega)
      refine g_callVi (pc' := 43) (As := [vr X 37, vr X k10]) (b := 53) (S := []) dX3_run_40 rfl m_X3_42 w_X3_runClause (c_X3_runClause X M1 ic1 k10 hk10) rfl ⟨_, _, _, rfl, rfl, rfl⟩ (by decide) (by decide) rfl (Nat.le_of_ble_eq_true rfl) (fun z12 M13 q11 => ?_)
      obtain ⟨iM13, fM130, eM13_53_4, eM13_54_5, pM13⟩ := q11
      have fM13 : Fr (fun c => (53 ≤ c ∧ c ≤ 59) ∨ (2 ≤ c ∧ c ≤ 6)) M M13 := Fr.tr fr1 fM130 fi_5
      have q2_5_M13 : (M13 2 5 = M 2 5) := (congrFun (fM130 2 (by first | decide | omega | (dsimp only; omega))) 5).trans h25
      have xM13_54_5 : M13 54 5 = M 2 5 := eM13_54_5.trans h54
      refine g_istore_n (pc' := 44) (i := 3) (L' := [(3, vi z12), (0, vr X 53), (1, vr X 37), (2, vr X 2)]) dX3_run_43 rfl rfl (by decide) rfl ?_
      refine g_iload_n (pc' := 45) 0 dX3_run_44 rfl rfl ?_
      refine g_if_ge (pc' := 48) (tgt := 50) ⟨by omega, by omega⟩ dX3_run_45 rfl rfl (fun c14 => ?_) (fun c14 => ?_)
      · refine g_aload_n (pc' := 51) 1 dX3_run_50 rfl rfl ?_
        refine g_dup (pc' := 52) dX3_run_51 rfl rfl ?_
        refine g_getI (pc' := 55) dX3_run_52 rfl f_X3_30 rfl rfl (fun v15 ev15 rv15 => ?_)
        refine g_iconst (pc' := 56) dX3_run_55 rfl ?_
        refine g_iadd (pc' := 57) dX3_run_56 rfl ?_
        refine g_putI (pc' := 60) dX3_run_57 rfl p_X3_30 rfl rfl ⟨by omega, by omega⟩ (fun M16 hM16 => ?_)
        have iM16 : IC M16 := IC.wr iM13 hM16 (by unfold okw isT; first | decide | omega)
        have fM16 : Fr (fun c => (53 ≤ c ∧ c ≤ 59) ∨ (2 ≤ c ∧ c ≤ 6)) M M16 := Fr.wr fM13 hM16 (by first | decide | omega | (dsimp only; omega))
        have q2_5_M16 : (M16 2 5 = M 2 5) := (show M16 2 5 = M13 2 5 by rw [hM16]; exact mu_ne _ _ (by first | decide | omega)).trans q2_5_M13
        have xM16_54_5 : M16 54 5 = M 2 5 := (show M16 54 5 = M13 54 5 by rw [hM16]; exact mu_ne _ _ (by first | decide | omega)).trans xM13_54_5
        have xM16_53_4 : M16 53 4 = v15 + 1 := by rw [hM16]; exact mu_at _ _ _ _
        refine g_goto (tgt := 18) dX3_run_60 rfl ?_
        refine g_sub [1, 2, 3] rfl ?_
        exact ih _ (by omega) M16 iM16 fM16 (by omega) (by omega) xM16_54_5 (by omega) rfl
      · refine g_iload_n (pc' := 49) 0 dX3_run_48 rfl rfl ?_
        refine g_ireturn dX3_run_49 ?_
        exact ⟨iM13, fM13, by omega⟩
set_option maxHeartbeats 4000000 in
set_option maxRecDepth 100000 in
theorem c_X3_run (X : Cx) (M : Mm) (hi : IC M) : Con X 6 yX3_run cX3_run 4 (some .int) [vr X 53, vr X 37, vr X 2] M (Qi (fun r M1 => IC M1 ∧ Fr (fun c => (53 ≤ c ∧ c ≤ 59) ∨ (2 ≤ c ∧ c ≤ 6)) M M1 ∧ (M1 2 5 = M 2 5 ∧ inI r))) := by
  refine Con.ofG rfl (Nat.le_of_ble_eq_true rfl) ?_
  show G X 6 RX3 cX3_run 4 (some .int) (Qi (fun r M1 => IC M1 ∧ Fr (fun c => (53 ≤ c ∧ c ≤ 59) ∨ (2 ≤ c ∧ c ≤ 6)) M M1 ∧ (M1 2 5 = M 2 5 ∧ inI r))) 0 [(0, vr X 53), (1, vr X 37), (2, vr X 2)] [] M
  refine g_aload_n (pc' := 1) 0 dX3_run_0 rfl rfl ?_
  refine g_getR (pc' := 4) dX3_run_1 rfl f_X3_12 rfl rfl ?_
  refine g_aload_n (pc' := 5) 2 dX3_run_4 rfl rfl ?_
  refine g_callVv (pc' := 8) (As := [vr X 2]) (b := 54) (S := []) dX3_run_5 rfl m_X3_22 w_X7_copyFrom (c_X7_copyFrom X M 54 isT_54 (hi.1 _ isT_54) 2 isT_2 (hi.1 _ isT_2) (by decide) (isT.apart isT_54 isT_2 (by decide))) rfl ⟨_, _, _, rfl, rfl, rfl⟩ (by decide) (by decide) rfl (Nat.le_of_ble_eq_true rfl) (fun M2 q1 => ?_)
  obtain ⟨kM2, fM20, gM20⟩ := q1
  have iM2 : IC M2 := IC.ofT hi isT_54 fM20 kM2
  have fM2 : Fr (fun c => (53 ≤ c ∧ c ≤ 59) ∨ (2 ≤ c ∧ c ≤ 6)) M M2 := Fr.tr Fr.rf fM20 (fun c z => by unfold inT at z; first | omega | (dsimp only; omega))
  have q2_5_M2 : (M2 2 5 = M 2 5) := (congrFun (fM20 2 (by unfold inT; first | decide | omega)) 5)
  refine g_aload_n (pc' := 9) 0 dX3_run_8 rfl rfl ?_
  refine g_iconst (pc' := 10) dX3_run_9 rfl ?_
  refine g_putI (pc' := 13) dX3_run_10 rfl p_X3_26 rfl rfl (by decide) (fun M3 hM3 => ?_)
  have iM3 : IC M3 := IC.wr iM2 hM3 (by unfold okw isT; first | decide | omega)
  have fM3 : Fr (fun c => (53 ≤ c ∧ c ≤ 59) ∨ (2 ≤ c ∧ c ≤ 6)) M M3 := Fr.wr fM2 hM3 (by first | decide | omega | (dsimp only; omega))
  have q2_5_M3 : (M3 2 5 = M 2 5) := (show M3 2 5 = M2 2 5 by rw [hM3]; exact mu_ne _ _ (by first | decide | omega)).trans q2_5_M2
  have xM3_54_5 : M3 54 5 = M 2 5 := (show M3 54 5 = M2 54 5 by rw [hM3]; exact mu_ne _ _ (by first | decide | omega)).trans gM20
  have xM3_53_3 : M3 53 3 = 0 := by rw [hM3]; exact mu_at _ _ _ _
  refine g_aload_n (pc' := 14) 0 dX3_run_13 rfl rfl ?_
  refine g_iconst (pc' := 15) dX3_run_14 rfl ?_
  refine g_putI (pc' := 18) dX3_run_15 rfl p_X3_30 rfl rfl (by decide) (fun M4 hM4 => ?_)
  have iM4 : IC M4 := IC.wr iM3 hM4 (by unfold okw isT; first | decide | omega)
  have fM4 : Fr (fun c => (53 ≤ c ∧ c ≤ 59) ∨ (2 ≤ c ∧ c ≤ 6)) M M4 := Fr.wr fM3 hM4 (by first | decide | omega | (dsimp only; omega))
  have q2_5_M4 : (M4 2 5 = M 2 5) := (show M4 2 5 = M3 2 5 by rw [hM4]; exact mu_ne _ _ (by first | decide | omega)).trans q2_5_M3
  have xM4_54_5 : M4 54 5 = M 2 5 := (show M4 54 5 = M3 54 5 by rw [hM4]; exact mu_ne _ _ (by first | decide | omega)).trans xM3_54_5
  have xM4_53_3 : M4 53 3 = 0 := (show M4 53 3 = M3 53 3 by rw [hM4]; exact mu_ne _ _ (by first | decide | omega)).trans xM3_53_3
  have xM4_53_4 : M4 53 4 = 0 := by rw [hM4]; exact mu_at _ _ _ _
  refine g_sub [0, 1, 2] rfl ?_
  exact l_X3_run_18 X M hi _ M4 iM4 fM4 (by omega) (by omega) xM4_54_5 (by omega) rfl
