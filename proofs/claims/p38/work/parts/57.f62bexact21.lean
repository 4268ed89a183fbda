set_option maxHeartbeats 4000000 in
set_option maxRecDepth 100000 in
theorem c_X6_copyFrom_10_1_x (X : Cx) (M : Mm) (hi : IC M) (tc td : Nat) (n : Int) (P : Nat → Int) (L : Int) (F Z : Nat → Int) (tu : TV M 2 tc td n P L F Z) (cun : 0 ≤ n ∧ n ≤ 6) : Con X 2 yX6_copyFrom cX6_copyFrom 2 none [vr X 10, vr X 1] M (Qv (fun M1 => IC M1 ∧ Fr (fun c => 10 ≤ c ∧ c ≤ 18) M M1 ∧ ((M1 11 5 = M 2 5 ∧ M1 10 2 = M 1 2 ∧ M1 10 4 = M 1 4 ∧ M1 10 6 = M 1 6) ∧ (∀ k : Nat, k < 3 → M1 16 k = M 7 k) ∧ ∃ (a1 b1 : Nat) (P1 F1 Z1 : Nat → Int), TV M1 11 a1 b1 n P1 L F1 Z1 ∧ (∀ j : Nat, j < 24 → P1 j = P j) ∧ (∀ j : Nat, j < 6 → F1 j = F j) ∧ (∀ j : Nat, j < 6 → Z1 j = Z j)))) := by
  refine Con.ofG rfl (Nat.le_of_ble_eq_true rfl) ?_
  show G X 2 RX6 cX6_copyFrom 2 none (Qv (fun M1 => IC M1 ∧ Fr (fun c => 10 ≤ c ∧ c ≤ 18) M M1 ∧ ((M1 11 5 = M 2 5 ∧ M1 10 2 = M 1 2 ∧ M1 10 4 = M 1 4 ∧ M1 10 6 = M 1 6) ∧ (∀ k : Nat, k < 3 → M1 16 k = M 7 k) ∧ ∃ (a1 b1 : Nat) (P1 F1 Z1 : Nat → Int), TV M1 11 a1 b1 n P1 L F1 Z1 ∧ (∀ j : Nat, j < 24 → P1 j = P j) ∧ (∀ j : Nat, j < 6 → F1 j = F j) ∧ (∀ j : Nat, j < 6 → Z1 j = Z j)))) 0 [(0, vr X 10), (1, vr X 1)] [] M
  refine g_aload_n (pc' := 1) 0 dX6_copyFrom_0 rfl rfl ?_
  refine g_getR (pc' := 4) dX6_copyFrom_1 rfl f_X6_12 rfl rfl ?_
  refine g_aload_n (pc' := 5) 1 dX6_copyFrom_4 rfl rfl ?_
  refine g_getR (pc' := 8) dX6_copyFrom_5 rfl f_X6_12 rfl rfl ?_
  refine g_callVv (pc' := 11) (As := [vr X 2]) (b := 11) (S := []) dX6_copyFrom_8 rfl m_X6_28 w_X7_copyFrom (c_X7_copyFrom_x X M 11 isT_11 (hi.1 _ isT_11) 2 isT_2 (hi.1 _ isT_2) (by decide) (isT.apart isT_11 isT_2 (by decide)) (M 11 2).toNat (M 11 3).toNat (M 11 5) (M (M 11 2).toNat) (M 11 4) (M (11 + 2)) (M (11 + 1)) (TV.of (hi.1 _ isT_11)) tc td n P L F Z tu cun) rfl ⟨_, _, _, rfl, rfl, rfl⟩ (by decide) (by decide) rfl (Nat.le_of_ble_eq_true rfl) (fun M2 q1 => ?_)
  obtain ⟨kM2, fM20, gM20, pM2⟩ := q1
  have iM2 : IC M2 := IC.ofT hi isT_11 fM20 kM2
  have fM2 : Fr (fun c => 10 ≤ c ∧ c ≤ 18) M M2 := Fr.tr Fr.rf fM20 (fun c z => by unfold inT at z; first | omega | (dsimp only; omega))
  have q1_2_M2 : (M2 1 2 = M 1 2) := (congrFun (fM20 1 (by unfold inT; first | decide | omega)) 2)
  have q1_4_M2 : (M2 1 4 = M 1 4) := (congrFun (fM20 1 (by unfold inT; first | decide | omega)) 4)
  have q1_6_M2 : (M2 1 6 = M 1 6) := (congrFun (fM20 1 (by unfold inT; first | decide | omega)) 6)
  obtain ⟨P1, F1, Z1, tvM2, cp1, cp2, cp3⟩ := pM2
  refine g_aload_n (pc' := 12) 1 dX6_copyFrom_11 rfl rfl ?_
  refine g_getR (pc' := 15) dX6_copyFrom_12 rfl f_X6_18 rfl rfl ?_
  refine g_iconst (pc' := 16) dX6_copyFrom_15 rfl ?_
  refine g_aload_n (pc' := 17) 0 dX6_copyFrom_16 rfl rfl ?_
  refine g_getR (pc' := 20) dX6_copyFrom_17 rfl f_X6_18 rfl rfl ?_
  refine g_iconst (pc' := 21) dX6_copyFrom_20 rfl ?_
  refine g_iconst (pc' := 22) dX6_copyFrom_21 rfl ?_
  refine g_copyI (pc' := 25) (sp := 0) (dp := 0) (n := 3) dX6_copyFrom_22 rfl m_X6_32 mn_copy ms_copy mi_Sys rfl rfl (by decide) (by decide) (by decide) (Nat.le_of_ble_eq_true rfl) (fun M3 hM3 => ?_)
  have iM3 : IC M3 := IC.cp iM2 hM3 (by unfold free isT; omega)
  have fM3 : Fr (fun c => 10 ≤ c ∧ c ≤ 18) M M3 := Fr.cp fM2 hM3 (by first | decide | omega | (dsimp only; omega))
  have q1_2_M3 : (M3 1 2 = M 1 2) := (congrFun (show M3 1 = M2 1 by rw [hM3]; exact mcp_cell _ (by first | decide | omega)) 2).trans q1_2_M2
  have q1_4_M3 : (M3 1 4 = M 1 4) := (congrFun (show M3 1 = M2 1 by rw [hM3]; exact mcp_cell _ (by first | decide | omega)) 4).trans q1_4_M2
  have q1_6_M3 : (M3 1 6 = M 1 6) := (congrFun (show M3 1 = M2 1 by rw [hM3]; exact mcp_cell _ (by first | decide | omega)) 6).trans q1_6_M2
  have xM3_11_5 : M3 11 5 = M 2 5 := (show M3 11 5 = M2 11 5 by rw [hM3]; exact congrFun (mcp_cell _ (by first | decide | omega)) 5).trans gM20
  have tvM3 := TV.far tvM2 (show Fr (fun c => c = 16) M2 M3 from fun q hq => by rw [hM3]; exact mcp_cell _ hq) (fun c z => by unfold inT; first | omega | (dsimp only at z; omega))
  have wzM3 : ∀ k : Nat, k < 3 → M3 16 k = M 7 k := fun k hk => by
    rw [hM3, mcp_in _ hk]
    exact congrFun (fM2 7 (by decide)) k
  refine g_aload_n (pc' := 26) 1 dX6_copyFrom_25 rfl rfl ?_
  refine g_getR (pc' := 29) dX6_copyFrom_26 rfl f_X6_22 rfl rfl ?_
  refine g_iconst (pc' := 30) dX6_copyFrom_29 rfl ?_
  refine g_aload_n (pc' := 31) 0 dX6_copyFrom_30 rfl rfl ?_
  refine g_getR (pc' := 34) dX6_copyFrom_31 rfl f_X6_22 rfl rfl ?_
  refine g_iconst (pc' := 35) dX6_copyFrom_34 rfl ?_
  refine g_bipush (pc' := 37) (v := 18) dX6_copyFrom_35 rfl (by decide) ?_
  refine g_copyI (pc' := 40) (sp := 0) (dp := 0) (n := 18) dX6_copyFrom_37 rfl m_X6_32 mn_copy ms_copy mi_Sys rfl rfl (by decide) (by decide) (by decide) (Nat.le_of_ble_eq_true rfl) (fun M4 hM4 => ?_)
  have iM4 : IC M4 := IC.cp iM3 hM4 (by unfold free isT; omega)
  have fM4 : Fr (fun c => 10 ≤ c ∧ c ≤ 18) M M4 := Fr.cp fM3 hM4 (by first | decide | omega | (dsimp only; omega))
  have q1_2_M4 : (M4 1 2 = M 1 2) := (congrFun (show M4 1 = M3 1 by rw [hM4]; exact mcp_cell _ (by first | decide | omega)) 2).trans q1_2_M3
  have q1_4_M4 : (M4 1 4 = M 1 4) := (congrFun (show M4 1 = M3 1 by rw [hM4]; exact mcp_cell _ (by first | decide | omega)) 4).trans q1_4_M3
  have q1_6_M4 : (M4 1 6 = M 1 6) := (congrFun (show M4 1 = M3 1 by rw [hM4]; exact mcp_cell _ (by first | decide | omega)) 6).trans q1_6_M3
  have xM4_11_5 : M4 11 5 = M 2 5 := (show M4 11 5 = M3 11 5 by rw [hM4]; exact congrFun (mcp_cell _ (by first | decide | omega)) 5).trans xM3_11_5
  have tvM4 := TV.far tvM3 (show Fr (fun c => c = 17) M3 M4 from fun q hq => by rw [hM4]; exact mcp_cell _ hq) (fun c z => by unfold inT; first | omega | (dsimp only at z; omega))
  have wzM4 : ∀ k : Nat, k < 3 → M4 16 k = M 7 k := fun k hk => by rw [hM4, mcp_cell _ (by decide)]; exact wzM3 k hk
  refine g_aload_n (pc' := 41) 1 dX6_copyFrom_40 rfl rfl ?_
  refine g_getR (pc' := 44) dX6_copyFrom_41 rfl f_X6_25 rfl rfl ?_
  refine g_iconst (pc' := 45) dX6_copyFrom_44 rfl ?_
  refine g_aload_n (pc' := 46) 0 dX6_copyFrom_45 rfl rfl ?_
  refine g_getR (pc' := 49) dX6_copyFrom_46 rfl f_X6_25 rfl rfl ?_
  refine g_iconst (pc' := 50) dX6_copyFrom_49 rfl ?_
  refine g_bipush (pc' := 52) (v := 18) dX6_copyFrom_50 rfl (by decide) ?_
  refine g_copyI (pc' := 55) (sp := 0) (dp := 0) (n := 18) dX6_copyFrom_52 rfl m_X6_32 mn_copy ms_copy mi_Sys rfl rfl (by decide) (by decide) (by decide) (Nat.le_of_ble_eq_true rfl) (fun M5 hM5 => ?_)
  have iM5 : IC M5 := IC.cp iM4 hM5 (by unfold free isT; omega)
  have fM5 : Fr (fun c => 10 ≤ c ∧ c ≤ 18) M M5 := Fr.cp fM4 hM5 (by first | decide | omega | (dsimp only; omega))
  have q1_2_M5 : (M5 1 2 = M 1 2) := (congrFun (show M5 1 = M4 1 by rw [hM5]; exact mcp_cell _ (by first | decide | omega)) 2).trans q1_2_M4
  have q1_4_M5 : (M5 1 4 = M 1 4) := (congrFun (show M5 1 = M4 1 by rw [hM5]; exact mcp_cell _ (by first | decide | omega)) 4).trans q1_4_M4
  have q1_6_M5 : (M5 1 6 = M 1 6) := (congrFun (show M5 1 = M4 1 by rw [hM5]; exact mcp_cell _ (by first | decide | omega)) 6).trans q1_6_M4
  have xM5_11_5 : M5 11 5 = M 2 5 := (show M5 11 5 = M4 11 5 by rw [hM5]; exact congrFun (mcp_cell _ (by first | decide | omega)) 5).trans xM4_11_5
  have tvM5 := TV.far tvM4 (show Fr (fun c => c = 18) M4 M5 from fun q hq => by rw [hM5]; exact mcp_cell _ hq) (fun c z => by unfold inT; first | omega | (dsimp only at z; omega))
  have wzM5 : ∀ k : Nat, k < 3 → M5 16 k = M 7 k := fun k hk => by rw [hM5, mcp_cell _ (by decide)]; exact wzM4 k hk
  refine g_aload_n (pc' := 56) 0 dX6_copyFrom_55 rfl rfl ?_
  refine g_aload_n (pc' := 57) 1 dX6_copyFrom_56 rfl rfl ?_
  refine g_getI (pc' := 60) dX6_copyFrom_57 rfl f_X6_38 rfl rfl (fun v6 ev6 rv6 => ?_)
  have bv6 : 0 ≤ v6 ∧ v6 ≤ 3 := by rw [ev6]; exact iM5.2.1.1.1
  have av6 : v6 = M 1 2 := ev6.trans q1_2_M5
  refine g_putI (pc' := 63) dX6_copyFrom_60 rfl p_X6_38 rfl rfl rv6 (fun M7 hM7 => ?_)
  have iM7 : IC M7 := IC.wr iM5 hM7 (by unfold okw isT; first | decide | omega)
  have fM7 : Fr (fun c => 10 ≤ c ∧ c ≤ 18) M M7 := Fr.wr fM5 hM7 (by first | decide | omega | (dsimp only; omega))
  have q1_2_M7 : (M7 1 2 = M 1 2) := (show M7 1 2 = M5 1 2 by rw [hM7]; exact mu_ne _ _ (by first | decide | omega)).trans q1_2_M5
  have q1_4_M7 : (M7 1 4 = M 1 4) := (show M7 1 4 = M5 1 4 by rw [hM7]; exact mu_ne _ _ (by first | decide | omega)).trans q1_4_M5
  have q1_6_M7 : (M7 1 6 = M 1 6) := (show M7 1 6 = M5 1 6 by rw [hM7]; exact mu_ne _ _ (by first | decide | omega)).trans q1_6_M5
  have xM7_11_5 : M7 11 5 = M 2 5 := (show M7 11 5 = M5 11 5 by rw [hM7]; exact mu_ne _ _ (by first | decide | omega)).trans xM5_11_5
  have xM7_10_2 : M7 10 2 = v6 := by rw [hM7]; exact mu_at _ _ _ _
  have tvM7 := TV.far tvM5 (show Fr (fun c => c = 10) M5 M7 from fun q hq => by rw [hM7]; exact mu_cell _ _ hq) (fun c z => by unfold inT; first | omega | (dsimp only at z; omega))
  have wzM7 : ∀ k : Nat, k < 3 → M7 16 k = M 7 k := fun k hk => by rw [hM7, mu_cell _ _ (by decide)]; exact wzM5 k hk
  refine g_aload_n (pc' := 64) 0 dX6_copyFrom_63 rfl rfl ?_
  refine g_aload_n (pc' := 65) 1 dX6_copyFrom_64 rfl rfl ?_
  refine g_getI (pc' := 68) dX6_copyFrom_65 rfl f_X6_42 rfl rfl (fun v8 ev8 rv8 => ?_)
  have bv8 : 0 ≤ v8 ∧ v8 ≤ 6 := by rw [ev8]; exact iM7.2.1.1.2.1
  have av8 : v8 = M 1 4 := ev8.trans q1_4_M7
  refine g_putI (pc' := 71) dX6_copyFrom_68 rfl p_X6_42 rfl rfl rv8 (fun M9 hM9 => ?_)
  have iM9 : IC M9 := IC.wr iM7 hM9 (by unfold okw isT; first | decide | omega)
  have fM9 : Fr (fun c => 10 ≤ c ∧ c ≤ 18) M M9 := Fr.wr fM7 hM9 (by first | decide | omega | (dsimp only; omega))
  have q1_2_M9 : (M9 1 2 = M 1 2) := (show M9 1 2 = M7 1 2 by rw [hM9]; exact mu_ne _ _ (by first | decide | omega)).trans q1_2_M7
  have q1_4_M9 : (M9 1 4 = M 1 4) := (show M9 1 4 = M7 1 4 by rw [hM9]; exact mu_ne _ _ (by first | decide | omega)).trans q1_4_M7
  have q1_6_M9 : (M9 1 6 = M 1 6) := (show M9 1 6 = M7 1 6 by rw [hM9]; exact mu_ne _ _ (by first | decide | omega)).trans q1_6_M7
  have xM9_11_5 : M9 11 5 = M 2 5 := (show M9 11 5 = M7 11 5 by rw [hM9]; exact mu_ne _ _ (by first | decide | omega)).trans xM7_11_5
  have xM9_10_2 : M9 10 2 = v6 := (show M9 10 2 = M7 10 2 by rw [hM9]; exact mu_ne _ _ (by first | decide | omega)).trans xM7_10_2
  have xM9_10_4 : M9 10 4 = v8 := by rw [hM9]; exact mu_at _ _ _ _
  have tvM9 := TV.far tvM7 (show Fr (fun c => c = 10) M7 M9 from fun q hq => by rw [hM9]; exact mu_cell _ _ hq) (fun c z => by unfold inT; first | omega | (dsimp only at z; omega))
  have wzM9 : ∀ k : Nat, k < 3 → M9 16 k = M 7 k := fun k hk => by rw [hM9, mu_cell _ _ (by decide)]; exact wzM7 k hk
  refine g_aload_n (pc' := 72) 0 dX6_copyFrom_71 rfl rfl ?_
  refine g_aload_n (pc' := 73) 1 dX6_copyFrom_72 rfl rfl ?_
  refine g_getI (pc' := 76) dX6_copyFrom_73 rfl f_X6_45 rfl rfl (fun v10 ev10 rv10 => ?_)
  have bv10 : 0 ≤ v10 ∧ v10 ≤ 6 := by rw [ev10]; exact iM9.2.1.1.2.2
  have av10 : v10 = M 1 6 := ev10.trans q1_6_M9
  refine g_putI (pc' := 79) dX6_copyFrom_76 rfl p_X6_45 rfl rfl rv10 (fun M11 hM11 => ?_)
  have iM11 : IC M11 := IC.wr iM9 hM11 (by unfold okw isT; first | decide | omega)
  have fM11 : Fr (fun c => 10 ≤ c ∧ c ≤ 18) M M11 := Fr.wr fM9 hM11 (by first | decide | omega | (dsimp only; omega))
  have q1_2_M11 : (M11 1 2 = M 1 2) := (show M11 1 2 = M9 1 2 by rw [hM11]; exact mu_ne _ _ (by first | decide | omega)).trans q1_2_M9
  have q1_4_M11 : (M11 1 4 = M 1 4) := (show M11 1 4 = M9 1 4 by rw [hM11]; exact mu_ne _ _ (by first | decide | omega)).trans q1_4_M9
  have q1_6_M11 : (M11 1 6 = M 1 6) := (show M11 1 6 = M9 1 6 by rw [hM11]; exact mu_ne _ _ (by first | decide | omega)).trans q1_6_M9
  have xM11_11_5 : M11 11 5 = M 2 5 := (show M11 11 5 = M9 11 5 by rw [hM11]; exact mu_ne _ _ (by first | decide | omega)).trans xM9_11_5
  have xM11_10_2 : M11 10 2 = v6 := (show M11 10 2 = M9 10 2 by rw [hM11]; exact mu_ne _ _ (by first | decide | omega)).trans xM9_10_2
  have xM11_10_4 : M11 10 4 = v8 := (show M11 10 4 = M9 10 4 by rw [hM11]; exact mu_ne _ _ (by first | decide | omega)).trans xM9_10_4
  have xM11_10_6 : M11 10 6 = v10 := by rw [hM11]; exact mu_at _ _ _ _
  have tvM11 := TV.far tvM9 (show Fr (fun c => c = 10) M9 M11 from fun q hq => by rw [hM11]; exact mu_cell _ _ hq) (fun c z => by unfold inT; first | omega | (dsimp only at z; omega))
  have wzM11 : ∀ k : Nat, k < 3 → M11 16 k = M 7 k := fun k hk => by rw [hM11, mu_cell _ _ (by decide)]; exact wzM9 k hk
  refine g_vreturn dX6_copyFrom_79 ?_
  exact ⟨iM11, fM11, by omega, wzM11, (M 11 2).toNat, (M 11 3).toNat, P1, F1, Z1, tvM11, cp1, cp2, cp3⟩
set_option maxHeartbeats 4000000 in
set_option maxRecDepth 100000 in
theorem c_X6_copyFrom_19_1_x (X : Cx) (M : Mm) (hi : IC M) (tc td : Nat) (n : Int) (P : Nat → Int) (L : Int) (F Z : Nat → Int) (tu : TV M 2 tc td n P L F Z) (cun : 0 ≤ n ∧ n ≤ 6) : Con X 2 yX6_copyFrom cX6_copyFrom 2 none [vr X 19, vr X 1] M (Qv (fun M1 => IC M1 ∧ Fr (fun c => 19 ≤ c ∧ c ≤ 27) M M1 ∧ ((M1 20 5 = M 2 5 ∧ M1 19 2 = M 1 2 ∧ M1 19 4 = M 1 4 ∧ M1 19 6 = M 1 6) ∧ (∀ k : Nat, k < 3 → M1 25 k = M 7 k) ∧ ∃ (a1 b1 : Nat) (P1 F1 Z1 : Nat → Int), TV M1 20 a1 b1 n P1 L F1 Z1 ∧ (∀ j : Nat, j < 24 → P1 j = P j) ∧ (∀ j : Nat, j < 6 → F1 j = F j) ∧ (∀ j : Nat, j < 6 → Z1 j = Z j)))) := by
  refine Con.ofG rfl (Nat.le_of_ble_eq_true rfl) ?_
  show G X 2 RX6 cX6_copyFrom 2 none (Qv (fun M1 => IC M1 ∧ Fr (fun c => 19 ≤ c ∧ c ≤ 27) M M1 ∧ ((M1 20 5 = M 2 5 ∧ M1 19 2 = M 1 2 ∧ M1 19 4 = M 1 4 ∧ M1 19 6 = M 1 6) ∧ (∀ k : Nat, k < 3 → M1 25 k = M 7 k) ∧ ∃ (a1 b1 : Nat) (P1 F1 Z1 : Nat → Int), TV M1 20 a1 b1 n P1 L F1 Z1 ∧ (∀ j : Nat, j < 24 → P1 j = P j) ∧ (∀ j : Nat, j < 6 → F1 j = F j) ∧ (∀ j : Nat, j < 6 → Z1 j = Z j)))) 0 [(0, vr X 19), (1, vr X 1)] [] M
  refine g_aload_n (pc' := 1) 0 dX6_copyFrom_0 rfl rfl ?_
  refine g_getR (pc' := 4) dX6_copyFrom_1 rfl f_X6_12 rfl rfl ?_
  refine g_aload_n (pc' := 5) 1 dX6_copyFrom_4 rfl rfl ?_
  refine g_getR (pc' := 8) dX6_copyFrom_5 rfl f_X6_12 rfl rfl ?_
  refine g_callVv (pc' := 11) (As := [vr X 2]) (b := 20) (S := []) dX6_copyFrom_8 rfl m_X6_28 w_X7_copyFrom (c_X7_copyFrom_x X M 20 isT_20 (hi.1 _ isT_20) 2 isT_2 (hi.1 _ isT_2) (by decide) (isT.apart isT_20 isT_2 (by decide)) (M 20 2).toNat (M 20 3).toNat (M 20 5) (M (M 20 2).toNat) (M 20 4) (M (20 + 2)) (M (20 + 1)) (TV.of (hi.1 _ isT_20)) tc td n P L F Z tu cun) rfl ⟨_, _, _, rfl, rfl, rfl⟩ (by decide) (by decide) rfl (Nat.le_of_ble_eq_true rfl) (fun M2 q1 => ?_)
  obtain ⟨kM2, fM20, gM20, pM2⟩ := q1
  have iM2 : IC M2 := IC.ofT hi isT_20 fM20 kM2
  have fM2 : Fr (fun c => 19 ≤ c ∧ c ≤ 27) M M2 := Fr.tr Fr.rf fM20 (fun c z => by unfold inT at z; first | omega | (dsimp only; omega))
  have q1_2_M2 : (M2 1 2 = M 1 2) := (congrFun (fM20 1 (by unfold inT; first | decide | omega)) 2)
  have q1_4_M2 : (M2 1 4 = M 1 4) := (congrFun (fM20 1 (by unfold inT; first | decide | omega)) 4)
  have q1_6_M2 : (M2 1 6 = M 1 6) := (congrFun (fM20 1 (by unfold inT; first | decide | omega)) 6)
  obtain ⟨P1, F1, Z1, tvM2, cp1, cp2, cp3⟩ := pM2
  refine g_aload_n (pc' := 12) 1 dX6_copyFrom_11 rfl rfl ?_
  refine g_getR (pc' := 15) dX6_copyFrom_12 rfl f_X6_18 rfl rfl ?_
  refine g_iconst (pc' := 16) dX6_copyFrom_15 rfl ?_
  refine g_aload_n (pc' := 17) 0 dX6_copyFrom_16 rfl rfl ?_
  refine g_getR (pc' := 20) dX6_copyFrom_17 rfl f_X6_18 rfl rfl ?_
  refine g_iconst (pc' := 21) dX6_copyFrom_20 rfl ?_
  refine g_iconst (pc' := 22) dX6_copyFrom_21 rfl ?_
  refine g_copyI (pc' := 25) (sp := 0) (dp := 0) (n := 3) dX6_copyFrom_22 rfl m_X6_32 mn_copy ms_copy mi_Sys rfl rfl (by decide) (by decide) (by decide) (Nat.le_of_ble_eq_true rfl) (fun M3 hM3 => ?_)
  have iM3 : IC M3 := IC.cp iM2 hM3 (by unfold free isT; omega)
  have fM3 : Fr (fun c => 19 ≤ c ∧ c ≤ 27) M M3 := Fr.cp fM2 hM3 (by first | decide | omega | (dsimp only; omega))
  have q1_2_M3 : (M3 1 2 = M 1 2) := (congrFun (show M3 1 = M2 1 by rw [hM3]; exact mcp_cell _ (by first | decide | omega)) 2).trans q1_2_M2
  have q1_4_M3 : (M3 1 4 = M 1 4) := (congrFun (show M3 1 = M2 1 by rw [hM3]; exact mcp_cell _ (by first | decide | omega)) 4).trans q1_4_M2
  have q1_6_M3 : (M3 1 6 = M 1 6) := (congrFun (show M3 1 = M2 1 by rw [hM3]; exact mcp_cell _ (by first | decide | omega)) 6).trans q1_6_M2
  have xM3_20_5 : M3 20 5 = M 2 5 := (show M3 20 5 = M2 20 5 by rw [hM3]; exact congrFun (mcp_cell _ (by first | decide | omega)) 5).trans gM20
  have tvM3 := TV.far tvM2 (show Fr (fun c => c = 25) M2 M3 from fun q hq => by rw [hM3]; exact mcp_cell _ hq) (fun c z => by unfold inT; first | omega | (dsimp only at z; omega))
  have wzM3 : ∀ k : Nat, k < 3 → M3 25 k = M 7 k := fun k hk => by
    rw [hM3, mcp_in _ hk]
    exact congrFun (fM2 7 (by decide)) k
  refine g_aload_n (pc' := 26) 1 dX6_copyFrom_25 rfl rfl ?_
  refine g_getR (pc' := 29) dX6_copyFrom_26 rfl f_X6_22 rfl rfl ?_
  refine g_iconst (pc' := 30) dX6_copyFrom_29 rfl ?_
  refine g_aload_n (pc' := 31) 0 dX6_copyFrom_30 rfl rfl ?_
  refine g_getR (pc' := 34) dX6_copyFrom_31 rfl f_X6_22 rfl rfl ?_
  refine g_iconst (pc' := 35) dX6_copyFrom_34 rfl ?_
  refine g_bipush (pc' := 37) (v := 18) dX6_copyFrom_35 rfl (by decide) ?_
  refine g_copyI (pc' := 40) (sp := 0) (dp := 0) (n := 18) dX6_copyFrom_37 rfl m_X6_32 mn_copy ms_copy mi_Sys rfl rfl (by decide) (by decide) (by decide) (Nat.le_of_ble_eq_true rfl) (fun M4 hM4 => ?_)
  have iM4 : IC M4 := IC.cp iM3 hM4 (by unfold free isT; omega)
  have fM4 : Fr (fun c => 19 ≤ c ∧ c ≤ 27) M M4 := Fr.cp fM3 hM4 (by first | decide | omega | (dsimp only; omega))
  have q1_2_M4 : (M4 1 2 = M 1 2) := (congrFun (show M4 1 = M3 1 by rw [hM4]; exact mcp_cell _ (by first | decide | omega)) 2).trans q1_2_M3
  have q1_4_M4 : (M4 1 4 = M 1 4) := (congrFun (show M4 1 = M3 1 by rw [hM4]; exact mcp_cell _ (by first | decide | omega)) 4).trans q1_4_M3
  have q1_6_M4 : (M4 1 6 = M 1 6) := (congrFun (show M4 1 = M3 1 by rw [hM4]; exact mcp_cell _ (by first | decide | omega)) 6).trans q1_6_M3
  have xM4_20_5 : M4 20 5 = M 2 5 := (show M4 20 5 = M3 20 5 by rw [hM4]; exact congrFun (mcp_cell _ (by first | decide | omega)) 5).trans xM3_20_5
  have tvM4 := TV.far tvM3 (show Fr (fun c => c = 26) M3 M4 from fun q hq => by rw [hM4]; exact mcp_cell _ hq) (fun c z => by unfold inT; first | omega | (dsimp only at z; omega))
  have wzM4 : ∀ k : Nat, k < 3 → M4 25 k = M 7 k := fun k hk => by rw [hM4, mcp_cell _ (by decide)]; exact wzM3 k hk
  refine g_aload_n (pc' := 41) 1 dX6_copyFrom_40 rfl rfl ?_
  refine g_getR (pc' := 44) dX6_copyFrom_41 rfl f_X6_25 rfl rfl ?_
  refine g_iconst (pc' := 45) dX6_copyFrom_44 rfl ?_
  refine g_aload_n (pc' := 46) 0 dX6_copyFrom_45 rfl rfl ?_
  refine g_getR (pc' := 49) dX6_copyFrom_46 rfl f_X6_25 rfl rfl ?_
  refine g_iconst (pc' := 50) dX6_copyFrom_49 rfl ?_
  refine g_bipush (pc' := 52) (v := 18) dX6_copyFrom_50 rfl (by decide) ?_
  refine g_copyI (pc' := 55) (sp := 0) (dp := 0) (n := 18) dX6_copyFrom_52 rfl m_X6_32 mn_copy ms_copy mi_Sys rfl rfl (by decide) (by decide) (by decide) (Nat.le_of_ble_eq_true rfl) (fun M5 hM5 => ?_)
  have iM5 : IC M5 := IC.cp iM4 hM5 (by unfold free isT; omega)
  have fM5 : Fr (fun c => 19 ≤ c ∧ c ≤ 27) M M5 := Fr.cp fM4 hM5 (by first | decide | omega | (dsimp only; omega))
  have q1_2_M5 : (M5 1 2 = M 1 2) := (congrFun (show M5 1 = M4 1 by rw [hM5]; exact mcp_cell _ (by first | decide | omega)) 2).trans q1_2_M4
  have q1_4_M5 : (M5 1 4 = M 1 4) := (congrFun (show M5 1 = M4 1 by rw [hM5]; exact mcp_cell _ (by first | decide | omega)) 4).trans q1_4_M4
  have q1_6_M5 : (M5 1 6 = M 1 6) := (congrFun (show M5 1 = M4 1 by rw [hM5]; exact mcp_cell _ (by first | decide | omega)) 6).trans q1_6_M4
  have xM5_20_5 : M5 20 5 = M 2 5 := (show M5 20 5 = M4 20 5 by rw [hM5]; exact congrFun (mcp_cell _ (by first | decide | omega)) 5).trans xM4_20_5
  have tvM5 := TV.far tvM4 (show Fr (fun c => c = 27) M4 M5 from fun q hq => by rw [hM5]; exact mcp_cell _ hq) (fun c z => by unfold inT; first | omega | (dsimp only at z; omega))
  have wzM5 : ∀ k : Nat, k < 3 → M5 25 k = M 7 k := fun k hk => by rw [hM5, mcp_cell _ (by decide)]; exact wzM4 k hk
  refine g_aload_n (pc' := 56) 0 dX6_copyFrom_55 rfl rfl ?_
  refine g_aload_n (pc' := 57) 1 dX6_copyFrom_56 rfl rfl ?_
  refine g_getI (pc' := 60) dX6_copyFrom_57 rfl f_X6_38 rfl rfl (fun v6 ev6 rv6 => ?_)
  have bv6 : 0 ≤ v6 ∧ v6 ≤ 3 := by rw [ev6]; exact iM5.2.1.1.1
  have av6 : v6 = M 1 2 := ev6.trans q1_2_M5
  refine g_putI (pc' := 63) dX6_copyFrom_60 rfl p_X6_38 rfl rfl rv6 (fun M7 hM7 => ?_)
  have iM7 : IC M7 := IC.wr iM5 hM7 (by unfold okw isT; first | decide | omega)
  have fM7 : Fr (fun c => 19 ≤ c ∧ c ≤ 27) M M7 := Fr.wr fM5 hM7 (by first | decide | omega | (dsimp only; omega))
  have q1_2_M7 : (M7 1 2 = M 1 2) := (show M7 1 2 = M5 1 2 by rw [hM7]; exact mu_ne _ _ (by first | decide | omega)).trans q1_2_M5
  have q1_4_M7 : (M7 1 4 = M 1 4) := (show M7 1 4 = M5 1 4 by rw [hM7]; exact mu_ne _ _ (by first | decide | omega)).trans q1_4_M5
  have q1_6_M7 : (M7 1 6 = M 1 6) := (show M7 1 6 = M5 1 6 by rw [hM7]; exact mu_ne _ _ (by first | decide | omega)).trans q1_6_M5
  have xM7_20_5 : M7 20 5 = M 2 5 := (show M7 20 5 = M5 20 5 by rw [hM7]; exact mu_ne _ _ (by first | decide | omega)).trans xM5_20_5
  have xM7_19_2 : M7 19 2 = v6 := by rw [hM7]; exact mu_at _ _ _ _
  have tvM7 := TV.far tvM5 (show Fr (fun c => c = 19) M5 M7 from fun q hq => by rw [hM7]; exact mu_cell _ _ hq) (fun c z => by unfold inT; first | omega | (dsimp only at z; omega))
  have wzM7 : ∀ k : Nat, k < 3 → M7 25 k = M 7 k := fun k hk => by rw [hM7, mu_cell _ _ (by decide)]; exact wzM5 k hk
  refine g_aload_n (pc' := 64) 0 dX6_copyFrom_63 rfl rfl ?_
  refine g_aload_n (pc' := 65) 1 dX6_copyFrom_64 rfl rfl ?_
  refine g_getI (pc' := 68) dX6_copyFrom_65 rfl f_X6_42 rfl rfl (fun v8 ev8 rv8 => ?_)
  have bv8 : 0 ≤ v8 ∧ v8 ≤ 6 := by rw [ev8]; exact iM7.2.1.1.2.1
  have av8 : v8 = M 1 4 := ev8.trans q1_4_M7
  refine g_putI (pc' := 71) dX6_copyFrom_68 rfl p_X6_42 rfl rfl rv8 (fun M9 hM9 => ?_)
  have iM9 : IC M9 := IC.wr iM7 hM9 (by unfold okw isT; first | decide | omega)
  have fM9 : Fr (fun c => 19 ≤ c ∧ c ≤ 27) M M9 := Fr.wr fM7 hM9 (by first | decide | omega | (dsimp only; omega))
  have q1_2_M9 : (M9 1 2 = M 1 2) := (show M9 1 2 = M7 1 2 by rw [hM9]; exact mu_ne _ _ (by first | decide | omega)).trans q1_2_M7
  have q1_4_M9 : (M9 1 4 = M 1 4) := (show M9 1 4 = M7 1 4 by rw [hM9]; exact mu_ne _ _ (by first | decide | omega)).trans q1_4_M7
  have q1_6_M9 : (M9 1 6 = M 1 6) := (show M9 1 6 = M7 1 6 by rw [hM9]; exact mu_ne _ _ (by first | decide | omega)).trans q1_6_M7
  have xM9_20_5 : M9 20 5 = M 2 5 := (show M9 20 5 = M7 20 5 by rw [hM9]; exact mu_ne _ _ (by first | decide | omega)).trans xM7_20_5
  have xM9_19_2 : M9 19 2 = v6 := (show M9 19 2 = M7 19 2 by rw [hM9]; exact mu_ne _ _ (by first | decide | omega)).trans xM7_19_2
  have xM9_19_4 : M9 19 4 = v8 := by rw [hM9]; exact mu_at _ _ _ _
  have tvM9 := TV.far tvM7 (show Fr (fun c => c = 19) M7 M9 from fun q hq => by rw [hM9]; exact mu_cell _ _ hq) (fun c z => by unfold inT; first | omega | (dsimp only at z; omega))
  have wzM9 : ∀ k : Nat, k < 3 → M9 25 k = M 7 k := fun k hk => by rw [hM9, mu_cell _ _ (by decide)]; exact wzM7 k hk
  refine g_aload_n (pc' := 72) 0 dX6_copyFrom_71 rfl rfl ?_
  refine g_aload_n (pc' := 73) 1 dX6_copyFrom_72 rfl rfl ?_
  refine g_getI (pc' := 76) dX6_copyFrom_73 rfl f_X6_45 rfl rfl (fun v10 ev10 rv10 => ?_)
  have bv10 : 0 ≤ v10 ∧ v10 ≤ 6 := by rw [ev10]; exact iM9.2.1.1.2.2
  have av10 : v10 = M 1 6 := ev10.trans q1_6_M9
  refine g_putI (pc' := 79) dX6_copyFrom_76 rfl p_X6_45 rfl rfl rv10 (fun M11 hM11 => ?_)
  have iM11 : IC M11 := IC.wr iM9 hM11 (by unfold okw isT; first | decide | omega)
  have fM11 : Fr (fun c => 19 ≤ c ∧ c ≤ 27) M M11 := Fr.wr fM9 hM11 (by first | decide | omega | (dsimp only; omega))
  have q1_2_M11 : (M11 1 2 = M 1 2) := (show M11 1 2 = M9 1 2 by rw [hM11]; exact mu_ne _ _ (by first | decide | omega)).trans q1_2_M9
  have q1_4_M11 : (M11 1 4 = M 1 4) := (show M11 1 4 = M9 1 4 by rw [hM11]; exact mu_ne _ _ (by first | decide | omega)).trans q1_4_M9
  have q1_6_M11 : (M11 1 6 = M 1 6) := (show M11 1 6 = M9 1 6 by rw [hM11]; exact mu_ne _ _ (by first | decide | omega)).trans q1_6_M9
  have xM11_20_5 : M11 20 5 = M 2 5 := (show M11 20 5 = M9 20 5 by rw [hM11]; exact mu_ne _ _ (by first | decide | omega)).trans xM9_20_5
  have xM11_19_2 : M11 19 2 = v6 := (show M11 19 2 = M9 19 2 by rw [hM11]; exact mu_ne _ _ (by first | decide | omega)).trans xM9_19_2
  have xM11_19_4 : M11 19 4 = v8 := (show M11 19 4 = M9 19 4 by rw [hM11]; exact mu_ne _ _ (by first | decide | omega)).trans xM9_19_4
  have xM11_19_6 : M11 19 6 = v10 := by rw [hM11]; exact mu_at _ _ _ _
  have tvM11 := TV.far tvM9 (show Fr (fun c => c = 19) M9 M11 from fun q hq => by rw [hM11]; exact mu_cell _ _ hq) (fun c z => by unfold inT; first | omega | (dsimp only at z; omega))
  have wzM11 : ∀ k : Nat, k < 3 → M11 25 k = M 7 k := fun k hk => by rw [hM11, mu_cell _ _ (by decide)]; exact wzM9 k hk
  refine g_vreturn dX6_copyFrom_79 ?_
  exact ⟨iM11, fM11, by omega, wzM11, (M 20 2).toNat, (M 20 3).toNat, P1, F1, Z1, tvM11, cp1, cp2, cp3⟩
set_option maxHeartbeats 4000000 in
set_option maxRecDepth 100000 in
theorem c_X6_copyFrom_1_10_x (X : Cx) (M : Mm) (hi : IC M) (tc td : Nat) (n : Int) (P : Nat → Int) (L : Int) (F Z : Nat → Int) (tu : TV M 11 tc td n P L F Z) (cun : 0 ≤ n ∧ n ≤ 6) : Con X 2 yX6_copyFrom cX6_copyFrom 2 none [vr X 1, vr X 10] M (Qv (fun M1 => IC M1 ∧ Fr (fun c => 1 ≤ c ∧ c ≤ 9) M M1 ∧ ((M1 2 5 = M 11 5 ∧ M1 1 2 = M 10 2 ∧ M1 1 4 = M 10 4 ∧ M1 1 6 = M 10 6) ∧ (∀ k : Nat, k < 3 → M1 7 k = M 16 k) ∧ ∃ (a1 b1 : Nat) (P1 F1 Z1 : Nat → Int), TV M1 2 a1 b1 n P1 L F1 Z1 ∧ (∀ j : Nat, j < 24 → P1 j = P j) ∧ (∀ j : Nat, j < 6 → F1 j = F j) ∧ (∀ j : Nat, j < 6 → Z1 j = Z j)))) := by
  refine Con.ofG rfl (Nat.le_of_ble_eq_true rfl) ?_
  show G X 2 RX6 cX6_copyFrom 2 none (Qv (fun M1 => IC M1 ∧ Fr (fun c => 1 ≤ c ∧ c ≤ 9) M M1 ∧ ((M1 2 5 = M 11 5 ∧ M1 1 2 = M 10 2 ∧ M1 1 4 = M 10 4 ∧ M1 1 6 = M 10 6) ∧ (∀ k : Nat, k < 3 → M1 7 k = M 16 k) ∧ ∃ (a1 b1 : Nat) (P1 F1 Z1 : Nat → Int), TV M1 2 a1 b1 n P1 L F1 Z1 ∧ (∀ j : Nat, j < 24 → P1 j = P j) ∧ (∀ j : Nat, j < 6 → F1 j = F j) ∧ (∀ j : Nat, j < 6 → Z1 j = Z j)))) 0 [(0, vr X 1), (1, vr X 10)] [] M
  refine g_aload_n (pc' := 1) 0 dX6_copyFrom_0 rfl rfl ?_
  refine g_getR (pc' := 4) dX6_copyFrom_1 rfl f_X6_12 rfl rfl ?_
  refine g_aload_n (pc' := 5) 1 dX6_copyFrom_4 rfl rfl ?_
  refine g_getR (pc' := 8) dX6_copyFrom_5 rfl f_X6_12 rfl rfl ?_
  refine g_callVv (pc' := 11) (As := [vr X 11]) (b := 2) (S := []) dX6_copyFrom_8 rfl m_X6_28 w_X7_copyFrom (c_X7_copyFrom_x X M 2 isT_2 (hi.1 _ isT_2) 11 isT_11 (hi.1 _ isT_11) (by decide) (isT.apart isT_2 isT_11 (by decide)) (M 2 2).toNat (M 2 3).toNat (M 2 5) (M (M 2 2).toNat) (M 2 4) (M (2 + 2)) (M (2 + 1)) (TV.of (hi.1 _ isT_2)) tc td n P L F Z tu cun) rfl ⟨_, _, _, rfl, rfl, rfl⟩ (by decide) (by decide) rfl (Nat.le_of_ble_eq_true rfl) (fun M2 q1 => ?_)
  obtain ⟨kM2, fM20, gM20, pM2⟩ := q1
  have iM2 : IC M2 := IC.ofT hi isT_2 fM20 kM2
  have fM2 : Fr (fun c => 1 ≤ c ∧ c ≤ 9) M M2 := Fr.tr Fr.rf fM20 (fun c z => by unfold inT at z; first | omega | (dsimp only; omega))
  have q10_2_M2 : (M2 10 2 = M 10 2) := (congrFun (fM20 10 (by unfold inT; first | decide | omega)) 2)
  have q10_4_M2 : (M2 10 4 = M 10 4) := (congrFun (fM20 10 (by unfold inT; first | decide | omega)) 4)
  have q10_6_M2 : (M2 10 6 = M 10 6) := (congrFun (fM20 10 (by unfold inT; first | decide | omega)) 6)
  obtain ⟨P1, F1, Z1, tvM2, cp1, cp2, cp3⟩ := pM2
  refine g_aload_n (pc' := 12) 1 dX6_copyFrom_11 rfl rfl ?_
  refine g_getR (pc' := 15) dX6_copyFrom_12 rfl f_X6_18 rfl rfl ?_
  refine g_iconst (pc' := 16) dX6_copyFrom_15 rfl ?_
  refine g_aload_n (pc' := 17) 0 dX6_copyFrom_16 rfl rfl ?_
  refine g_getR (pc' := 20) dX6_copyFrom_17 rfl f_X6_18 rfl rfl ?_
  refine g_iconst (pc' := 21) dX6_copyFrom_20 rfl ?_
  refine g_iconst (pc' := 22) dX6_copyFrom_21 rfl ?_
  refine g_copyI (pc' := 25) (sp := 0) (dp := 0) (n := 3) dX6_copyFrom_22 rfl m_X6_32 mn_copy ms_copy mi_Sys rfl rfl (by decide) (by decide) (by decide) (Nat.le_of_ble_eq_true rfl) (fun M3 hM3 => ?_)
  have iM3 : IC M3 := IC.cp iM2 hM3 (by unfold free isT; omega)
  have fM3 : Fr (fun c => 1 ≤ c ∧ c ≤ 9) M M3 := Fr.cp fM2 hM3 (by first | decide | omega | (dsimp only; omega))
  have q10_2_M3 : (M3 10 2 = M 10 2) := (congrFun (show M3 10 = M2 10 by rw [hM3]; exact mcp_cell _ (by first | decide | omega)) 2).trans q10_2_M2
  have q10_4_M3 : (M3 10 4 = M 10 4) := (congrFun (show M3 10 = M2 10 by rw [hM3]; exact mcp_cell _ (by first | decide | omega)) 4).trans q10_4_M2
  have q10_6_M3 : (M3 10 6 = M 10 6) := (congrFun (show M3 10 = M2 10 by rw [hM3]; exact mcp_cell _ (by first | decide | omega)) 6).trans q10_6_M2
  have xM3_2_5 : M3 2 5 = M 11 5 := (show M3 2 5 = M2 2 5 by rw [hM3]; exact congrFun (mcp_cell _ (by first | decide | omega)) 5).trans gM20
  have tvM3 := TV.far tvM2 (show Fr (fun c => c = 7) M2 M3 from fun q hq => by rw [hM3]; exact mcp_cell _ hq) (fun c z => by unfold inT; first | omega | (dsimp only at z; omega))
  have wzM3 : ∀ k : Nat, k < 3 → M3 7 k = M 16 k := fun k hk => by
    rw [hM3, mcp_in _ hk]
    exact congrFun (fM2 16 (by decide)) k
  refine g_aload_n (pc' := 26) 1 dX6_copyFrom_25 rfl rfl ?_
  refine g_getR (pc' := 29) dX6_copyFrom_26 rfl f_X6_22 rfl rfl ?_
  refine g_iconst (pc' := 30) dX6_copyFrom_29 rfl ?_
  refine g_aload_n (pc' := 31) 0 dX6_copyFrom_30 rfl rfl ?_
  refine g_getR (pc' := 34) dX6_copyFrom_31 rfl f_X6_22 rfl rfl ?_
  refine g_iconst (pc' := 35) dX6_copyFrom_34 rfl ?_
  refine g_bipush (pc' := 37) (v := 18) dX6_copyFrom_35 rfl (by decide) ?_
  refine g_copyI (pc' := 40) (sp := 0) (dp := 0) (n := 18) dX6_copyFrom_37 rfl m_X6_32 mn_copy ms_copy mi_Sys rfl rfl (by decide) (by decide) (by decide) (Nat.le_of_ble_eq_true rfl) (fun M4 hM4 => ?_)
  have iM4 : IC M4 := IC.cp iM3 hM4 (by unfold free isT; omega)
  have fM4 : Fr (fun c => 1 ≤ c ∧ c ≤ 9) M M4 := Fr.cp fM3 hM4 (by first | decide | omega | (dsimp only; omega))
  have q10_2_M4 : (M4 10 2 = M 10 2) := (congrFun (show M4 10 = M3 10 by rw [hM4]; exact mcp_cell _ (by first | decide | omega)) 2).trans q10_2_M3
  have q10_4_M4 : (M4 10 4 = M 10 4) := (congrFun (show M4 10 = M3 10 by rw [hM4]; exact mcp_cell _ (by first | decide | omega)) 4).trans q10_4_M3
  have q10_6_M4 : (M4 10 6 = M 10 6) := (congrFun (show M4 10 = M3 10 by rw [hM4]; exact mcp_cell _ (by first | decide | omega)) 6).trans q10_6_M3
  have xM4_2_5 : M4 2 5 = M 11 5 := (show M4 2 5 = M3 2 5 by rw [hM4]; exact congrFun (mcp_cell _ (by first | decide | omega)) 5).trans xM3_2_5
  have tvM4 := TV.far tvM3 (show Fr (fun c => c = 8) M3 M4 from fun q hq => by rw [hM4]; exact mcp_cell _ hq) (fun c z => by unfold inT; first | omega | (dsimp only at z; omega))
  have wzM4 : ∀ k : Nat, k < 3 → M4 7 k = M 16 k := fun k hk => by rw [hM4, mcp_cell _ (by decide)]; exact wzM3 k hk
  refine g_aload_n (pc' := 41) 1 dX6_copyFrom_40 rfl rfl ?_
  refine g_getR (pc' := 44) dX6_copyFrom_41 rfl f_X6_25 rfl rfl ?_
  refine g_iconst (pc' := 45) dX6_copyFrom_44 rfl ?_
  refine g_aload_n (pc' := 46) 0 dX6_copyFrom_45 rfl rfl ?_
  refine g_getR (pc' := 49) dX6_copyFrom_46 rfl f_X6_25 rfl rfl ?_
  refine g_iconst (pc' := 50) dX6_copyFrom_49 rfl ?_
  refine g_bipush (pc' := 52) (v := 18) dX6_copyFrom_50 rfl (by decide) ?_
  refine g_copyI (pc' := 55) (sp := 0) (dp := 0) (n := 18) dX6_copyFrom_52 rfl m_X6_32 mn_copy ms_copy mi_Sys rfl rfl (by decide) (by decide) (by decide) (Nat.le_of_ble_eq_true rfl) (fun M5 hM5 => ?_)
  have iM5 : IC M5 := IC.cp iM4 hM5 (by unfold free isT; omega)
  have fM5 : Fr (fun c => 1 ≤ c ∧ c ≤ 9) M M5 := Fr.cp fM4 hM5 (by first | decide | omega | (dsimp only; omega))
  have q10_2_M5 : (M5 10 2 = M 10 2) := (congrFun (show M5 10 = M4 10 by rw [hM5]; exact mcp_cell _ (by first | decide | omega)) 2).trans q10_2_M4
  have q10_4_M5 : (M5 10 4 = M 10 4) := (congrFun (show M5 10 = M4 10 by rw [hM5]; exact mcp_cell _ (by first | decide | omega)) 4).trans q10_4_M4
  have q10_6_M5 : (M5 10 6 = M 10 6) := (congrFun (show M5 10 = M4 10 by rw [hM5]; exact mcp_cell _ (by first | decide | omega)) 6).trans q10_6_M4
  have xM5_2_5 : M5 2 5 = M 11 5 := (show M5 2 5 = M4 2 5 by rw [hM5]; exact congrFun (mcp_cell _ (by first | decide | omega)) 5).trans xM4_2_5
  have tvM5 := TV.far tvM4 (show Fr (fun c => c = 9) M4 M5 from fun q hq => by rw [hM5]; exact mcp_cell _ hq) (fun c z => by unfold inT; first | omega | (dsimp only at z; omega))
  have wzM5 : ∀ k : Nat, k < 3 → M5 7 k = M 16 k := fun k hk => by rw [hM5, mcp_cell _ (by decide)]; exact wzM4 k hk
  refine g_aload_n (pc' := 56) 0 dX6_copyFrom_55 rfl rfl ?_
  refine g_aload_n (pc' := 57) 1 dX6_copyFrom_56 rfl rfl ?_
  refine g_getI (pc' := 60) dX6_copyFrom_57 rfl f_X6_38 rfl rfl (fun v6 ev6 rv6 => ?_)
  have bv6 : 0 ≤ v6 ∧ v6 ≤ 3 := by rw [ev6]; exact iM5.2.1.2.1.1
  have av6 : v6 = M 10 2 := ev6.trans q10_2_M5
  refine g_putI (pc' := 63) dX6_copyFrom_60 rfl p_X6_38 rfl rfl rv6 (fun M7 hM7 => ?_)
  have iM7 : IC M7 := IC.wr iM5 hM7 (by unfold okw isT; first | decide | omega)
  have fM7 : Fr (fun c => 1 ≤ c ∧ c ≤ 9) M M7 := Fr.wr fM5 hM7 (by first | decide | omega | (dsimp only; omega))
  have q10_2_M7 : (M7 10 2 = M 10 2) := (show M7 10 2 = M5 10 2 by rw [hM7]; exact mu_ne _ _ (by first | decide | omega)).trans q10_2_M5
  have q10_4_M7 : (M7 10 4 = M 10 4) := (show M7 10 4 = M5 10 4 by rw [hM7]; exact mu_ne _ _ (by first | decide | omega)).trans q10_4_M5
  have q10_6_M7 : (M7 10 6 = M 10 6) := (show M7 10 6 = M5 10 6 by rw [hM7]; exact mu_ne _ _ (by first | decide | omega)).trans q10_6_M5
  have xM7_2_5 : M7 2 5 = M 11 5 := (show M7 2 5 = M5 2 5 by rw [hM7]; exact mu_ne _ _ (by first | decide | omega)).trans xM5_2_5
  have xM7_1_2 : M7 1 2 = v6 := by rw [hM7]; exact mu_at _ _ _ _
  have tvM7 := TV.far tvM5 (show Fr (fun c => c = 1) M5 M7 from fun q hq => by rw [hM7]; exact mu_cell _ _ hq) (fun c z => by unfold inT; first | omega | (dsimp only at z; omega))
  have wzM7 : ∀ k : Nat, k < 3 → M7 7 k = M 16 k := fun k hk => by rw [hM7, mu_cell _ _ (by decide)]; exact wzM5 k hk
  refine g_aload_n (pc' := 64) 0 dX6_copyFrom_63 rfl rfl ?_
  refine g_aload_n (pc' := 65) 1 dX6_copyFrom_64 rfl rfl ?_
  refine g_getI (pc' := 68) dX6_copyFrom_65 rfl f_X6_42 rfl rfl (fun v8 ev8 rv8 => ?_)
  have bv8 : 0 ≤ v8 ∧ v8 ≤ 6 := by rw [ev8]; exact iM7.2.1.2.1.2.1
  have av8 : v8 = M 10 4 := ev8.trans q10_4_M7
  refine g_putI (pc' := 71) dX6_copyFrom_68 rfl p_X6_42 rfl rfl rv8 (fun M9 hM9 => ?_)
  have iM9 : IC M9 := IC.wr iM7 hM9 (by unfold okw isT; first | decide | omega)
  have fM9 : Fr (fun c => 1 ≤ c ∧ c ≤ 9) M M9 := Fr.wr fM7 hM9 (by first | decide | omega | (dsimp only; omega))
  have q10_2_M9 : (M9 10 2 = M 10 2) := (show M9 10 2 = M7 10 2 by rw [hM9]; exact mu_ne _ _ (by first | decide | omega)).trans q10_2_M7
  have q10_4_M9 : (M9 10 4 = M 10 4) := (show M9 10 4 = M7 10 4 by rw [hM9]; exact mu_ne _ _ (by first | decide | omega)).trans q10_4_M7
  have q10_6_M9 : (M9 10 6 = M 10 6) := (show M9 10 6 = M7 10 6 by rw [hM9]; exact mu_ne _ _ (by first | decide | omega)).trans q10_6_M7
  have xM9_2_5 : M9 2 5 = M 11 5 := (show M9 2 5 = M7 2 5 by rw [hM9]; exact mu_ne _ _ (by first | decide | omega)).trans xM7_2_5
  have xM9_1_2 : M9 1 2 = v6 := (show M9 1 2 = M7 1 2 by rw [hM9]; exact mu_ne _ _ (by first | decide | omega)).trans xM7_1_2
  have xM9_1_4 : M9 1 4 = v8 := by rw [hM9]; exact mu_at _ _ _ _
  have tvM9 := TV.far tvM7 (show Fr (fun c => c = 1) M7 M9 from fun q hq => by rw [hM9]; exact mu_cell _ _ hq) (fun c z => by unfold inT; first | omega | (dsimp only at z; omega))
  have wzM9 : ∀ k : Nat, k < 3 → M9 7 k = M 16 k := fun k hk => by rw [hM9, mu_cell _ _ (by decide)]; exact wzM7 k hk
  refine g_aload_n (pc' := 72) 0 dX6_copyFrom_71 rfl rfl ?_
  refine g_aload_n (pc' := 73) 1 dX6_copyFrom_72 rfl rfl ?_
  refine g_getI (pc' := 76) dX6_copyFrom_73 rfl f_X6_45 rfl rfl (fun v10 ev10 rv10 => ?_)
  have bv10 : 0 ≤ v10 ∧ v10 ≤ 6 := by rw [ev10]; exact iM9.2.1.2.1.2.2
  have av10 : v10 = M 10 6 := ev10.trans q10_6_M9
  refine g_putI (pc' := 79) dX6_copyFrom_76 rfl p_X6_45 rfl rfl rv10 (fun M11 hM11 => ?_)
  have iM11 : IC M11 := IC.wr iM9 hM11 (by unfold okw isT; first | decide | omega)
  have fM11 : Fr (fun c => 1 ≤ c ∧ c ≤ 9) M M11 := Fr.wr fM9 hM11 (by first | decide | omega | (dsimp only; omega))
  have q10_2_M11 : (M11 10 2 = M 10 2) := (show M11 10 2 = M9 10 2 by rw [hM11]; exact mu_ne _ _ (by first | decide | omega)).trans q10_2_M9
  have q10_4_M11 : (M11 10 4 = M 10 4) := (show M11 10 4 = M9 10 4 by rw [hM11]; exact mu_ne _ _ (by first | decide | omega)).trans q10_4_M9
  have q10_6_M11 : (M11 10 6 = M 10 6) := (show M11 10 6 = M9 10 6 by rw [hM11]; exact mu_ne _ _ (by first | decide | omega)).trans q10_6_M9
  have xM11_2_5 : M11 2 5 = M 11 5 := (show M11 2 5 = M9 2 5 by rw [hM11]; exact mu_ne _ _ (by first | decide | omega)).trans xM9_2_5
  have xM11_1_2 : M11 1 2 = v6 := (show M11 1 2 = M9 1 2 by rw [hM11]; exact mu_ne _ _ (by first | decide | omega)).trans xM9_1_2
  have xM11_1_4 : M11 1 4 = v8 := (show M11 1 4 = M9 1 4 by rw [hM11]; exact mu_ne _ _ (by first | decide | omega)).trans xM9_1_4
  have xM11_1_6 : M11 1 6 = v10 := by rw [hM11]; exact mu_at _ _ _ _
  have tvM11 := TV.far tvM9 (show Fr (fun c => c = 1) M9 M11 from fun q hq => by rw [hM11]; exact mu_cell _ _ hq) (fun c z => by unfold inT; first | omega | (dsimp only at z; omega))
  have wzM11 : ∀ k : Nat, k < 3 → M11 7 k = M 16 k := fun k hk => by rw [hM11, mu_cell _ _ (by decide)]; exact wzM9 k hk
  refine g_vreturn dX6_copyFrom_79 ?_
  exact ⟨iM11, fM11, by omega, wzM11, (M 2 2).toNat, (M 2 3).toNat, P1, F1, Z1, tvM11, cp1, cp2, cp3⟩
set_option maxHeartbeats 4000000 in
set_option maxRecDepth 100000 in
theorem c_X6_copyFrom_1_19_x (X : Cx) (M : Mm) (hi : IC M) (tc td : Nat) (n : Int) (P : Nat → Int) (L : Int) (F Z : Nat → Int) (tu : TV M 20 tc td n P L F Z) (cun : 0 ≤ n ∧ n ≤ 6) : Con X 2 yX6_copyFrom cX6_copyFrom 2 none [vr X 1, vr X 19] M (Qv (fun M1 => IC M1 ∧ Fr (fun c => 1 ≤ c ∧ c ≤ 9) M M1 ∧ ((M1 2 5 = M 20 5 ∧ M1 1 2 = M 19 2 ∧ M1 1 4 = M 19 4 ∧ M1 1 6 = M 19 6) ∧ (∀ k : Nat, k < 3 → M1 7 k = M 25 k) ∧ ∃ (a1 b1 : Nat) (P1 F1 Z1 : Nat → Int), TV M1 2 a1 b1 n P1 L F1 Z1 ∧ (∀ j : Nat, j < 24 → P1 j = P j) ∧ (∀ j : Nat, j < 6 → F1 j = F j) ∧ (∀ j : Nat, j < 6 → Z1 j = Z j)))) := by
  refine Con.ofG rfl (Nat.le_of_ble_eq_true rfl) ?_
  show G X 2 RX6 cX6_copyFrom 2 none (Qv (fun M1 => IC M1 ∧ Fr (fun c => 1 ≤ c ∧ c ≤ 9) M M1 ∧ ((M1 2 5 = M 20 5 ∧ M1 1 2 = M 19 2 ∧ M1 1 4 = M 19 4 ∧ M1 1 6 = M 19 6) ∧ (∀ k : Nat, k < 3 → M1 7 k = M 25 k) ∧ ∃ (a1 b1 : Nat) (P1 F1 Z1 : Nat → Int), TV M1 2 a1 b1 n P1 L F1 Z1 ∧ (∀ j : Nat, j < 24 → P1 j = P j) ∧ (∀ j : Nat, j < 6 → F1 j = F j) ∧ (∀ j : Nat, j < 6 → Z1 j = Z j)))) 0 [(0, vr X 1), (1, vr X 19)] [] M
  refine g_aload_n (pc' := 1) 0 dX6_copyFrom_0 rfl rfl ?_
  refine g_getR (pc' := 4) dX6_copyFrom_1 rfl f_X6_12 rfl rfl ?_
  refine g_aload_n (pc' := 5) 1 dX6_copyFrom_4 rfl rfl ?_
  refine g_getR (pc' := 8) dX6_copyFrom_5 rfl f_X6_12 rfl rfl ?_
  refine g_callVv (pc' := 11) (As := [vr X 20]) (b := 2) (S := []) dX6_copyFrom_8 rfl m_X6_28 w_X7_copyFrom (c_X7_copyFrom_x X M 2 isT_2 (hi.1 _ isT_2) 20 isT_20 (hi.1 _ isT_20) (by decide) (isT.apart isT_2 isT_20 (by decide)) (M 2 2).toNat (M 2 3).toNat (M 2 5) (M (M 2 2).toNat) (M 2 4) (M (2 + 2)) (M (2 + 1)) (TV.of (hi.1 _ isT_2)) tc td n P L F Z tu cun) rfl ⟨_, _, _, rfl, rfl, rfl⟩ (by decide) (by decide) rfl (Nat.le_of_ble_eq_true rfl) (fun M2 q1 => ?_)
  obtain ⟨kM2, fM20, gM20, pM2⟩ := q1
  have iM2 : IC M2 := IC.ofT hi isT_2 fM20 kM2
  have fM2 : Fr (fun c => 1 ≤ c ∧ c ≤ 9) M M2 := Fr.tr Fr.rf fM20 (fun c z => by unfold inT at z; first | omega | (dsimp only; omega))
  have q19_2_M2 : (M2 19 2 = M 19 2) := (congrFun (fM20 19 (by unfold inT; first | decide | omega)) 2)
  have q19_4_M2 : (M2 19 4 = M 19 4) := (congrFun (fM20 19 (by unfold inT; first | decide | omega)) 4)
  have q19_6_M2 : (M2 19 6 = M 19 6) := (congrFun (fM20 19 (by unfold inT; first | decide | omega)) 6)
  obtain ⟨P1, F1, Z1, tvM2, cp1, cp2, cp3⟩ := pM2
  refine g_aload_n (pc' := 12) 1 dX6_copyFrom_11 rfl rfl ?_
  refine g_getR (pc' := 15) dX6_copyFrom_12 rfl f_X6_18 rfl rfl ?_
  refine g_iconst (pc' := 16) dX6_copyFrom_15 rfl ?_
  refine g_aload_n (pc' := 17) 0 dX6_copyFrom_16 rfl rfl ?_
  refine g_getR (pc' := 20) dX6_copyFrom_17 rfl f_X6_18 rfl rfl ?_
  refine g_iconst (pc' := 21) dX6_copyFrom_20 rfl ?_
  refine g_iconst (pc' := 22) dX6_copyFrom_21 rfl ?_
  refine g_copyI (pc' := 25) (sp := 0) (dp := 0) (n := 3) dX6_copyFrom_22 rfl m_X6_32 mn_copy ms_copy mi_Sys rfl rfl (by decide) (by decide) (by decide) (Nat.le_of_ble_eq_true rfl) (fun M3 hM3 => ?_)
  have iM3 : IC M3 := IC.cp iM2 hM3 (by unfold free isT; omega)
  have fM3 : Fr (fun c => 1 ≤ c ∧ c ≤ 9) M M3 := Fr.cp fM2 hM3 (by first | decide | omega | (dsimp only; omega))
  have q19_2_M3 : (M3 19 2 = M 19 2) := (congrFun (show M3 19 = M2 19 by rw [hM3]; exact mcp_cell _ (by first | decide | omega)) 2).trans q19_2_M2
  have q19_4_M3 : (M3 19 4 = M 19 4) := (congrFun (show M3 19 = M2 19 by rw [hM3]; exact mcp_cell _ (by first | decide | omega)) 4).trans q19_4_M2
  have q19_6_M3 : (M3 19 6 = M 19 6) := (congrFun (show M3 19 = M2 19 by rw [hM3]; exact mcp_cell _ (by first | decide | omega)) 6).trans q19_6_M2
  have xM3_2_5 : M3 2 5 = M 20 5 := (show M3 2 5 = M2 2 5 by rw [hM3]; exact congrFun (mcp_cell _ (by first | decide | omega)) 5).trans gM20
  have tvM3 := TV.far tvM2 (show Fr (fun c => c = 7) M2 M3 from fun q hq => by rw [hM3]; exact mcp_cell _ hq) (fun c z => by unfold inT; first | omega | (dsimp only at z; omega))
  have wzM3 : ∀ k : Nat, k < 3 → M3 7 k = M 25 k := fun k hk => by
    rw [hM3, mcp_in _ hk]
    exact congrFun (fM2 25 (by decide)) k
  refine g_aload_n (pc' := 26) 1 dX6_copyFrom_25 rfl rfl ?_
  refine g_getR (pc' := 29) dX6_copyFrom_26 rfl f_X6_22 rfl rfl ?_
  refine g_iconst (pc' := 30) dX6_copyFrom_29 rfl ?_
  refine g_aload_n (pc' := 31) 0 dX6_copyFrom_30 rfl rfl ?_
  refine g_getR (pc' := 34) dX6_copyFrom_31 rfl f_X6_22 rfl rfl ?_
  refine g_iconst (pc' := 35) dX6_copyFrom_34 rfl ?_
  refine g_bipush (pc' := 37) (v := 18) dX6_copyFrom_35 rfl (by decide) ?_
  refine g_copyI (pc' := 40) (sp := 0) (dp := 0) (n := 18) dX6_copyFrom_37 rfl m_X6_32 mn_copy ms_copy mi_Sys rfl rfl (by decide) (by decide) (by decide) (Nat.le_of_ble_eq_true rfl) (fun M4 hM4 => ?_)
  have iM4 : IC M4 := IC.cp iM3 hM4 (by unfold free isT; omega)
  have fM4 : Fr (fun c => 1 ≤ c ∧ c ≤ 9) M M4 := Fr.cp fM3 hM4 (by first | decide | omega | (dsimp only; omega))
  have q19_2_M4 : (M4 19 2 = M 19 2) := (congrFun (show M4 19 = M3 19 by rw [hM4]; exact mcp_cell _ (by first | decide | omega)) 2).trans q19_2_M3
  have q19_4_M4 : (M4 19 4 = M 19 4) := (congrFun (show M4 19 = M3 19 by rw [hM4]; exact mcp_cell _ (by first | decide | omega)) 4).trans q19_4_M3
  have q19_6_M4 : (M4 19 6 = M 19 6) := (congrFun (show M4 19 = M3 19 by rw [hM4]; exact mcp_cell _ (by first | decide | omega)) 6).trans q19_6_M3
  have xM4_2_5 : M4 2 5 = M 20 5 := (show M4 2 5 = M3 2 5 by rw [hM4]; exact congrFun (mcp_cell _ (by first | decide | omega)) 5).trans xM3_2_5
  have tvM4 := TV.far tvM3 (show Fr (fun c => c = 8) M3 M4 from fun q hq => by rw [hM4]; exact mcp_cell _ hq) (fun c z => by unfold inT; first | omega | (dsimp only at z; omega))
  have wzM4 : ∀ k : Nat, k < 3 → M4 7 k = M 25 k := fun k hk => by rw [hM4, mcp_cell _ (by decide)]; exact wzM3 k hk
  refine g_aload_n (pc' := 41) 1 dX6_copyFrom_40 rfl rfl ?_
  refine g_getR (pc' := 44) dX6_copyFrom_41 rfl f_X6_25 rfl rfl ?_
  refine g_iconst (pc' := 45) dX6_copyFrom_44 rfl ?_
  refine g_aload_n (pc' := 46) 0 dX6_copyFrom_45 rfl rfl ?_
  refine g_getR (pc' := 49) dX6_copyFrom_46 rfl f_X6_25 rfl rfl ?_
  refine g_iconst (pc' := 50) dX6_copyFrom_49 rfl ?_
  refine g_bipush (pc' := 52) (v := 18) dX6_copyFrom_50 rfl (by decide) ?_
  refine g_copyI (pc' := 55) (sp := 0) (dp := 0) (n := 18) dX6_copyFrom_52 rfl m_X6_32 mn_copy ms_copy mi_Sys rfl rfl (by decide) (by decide) (by decide) (Nat.le_of_ble_eq_true rfl) (fun M5 hM5 => ?_)
  have iM5 : IC M5 := IC.cp iM4 hM5 (by unfold free isT; omega)
  have fM5 : Fr (fun c => 1 ≤ c ∧ c ≤ 9) M M5 := Fr.cp fM4 hM5 (by first | decide | omega | (dsimp only; omega))
  have q19_2_M5 : (M5 19 2 = M 19 2) := (congrFun (show M5 19 = M4 19 by rw [hM5]; exact mcp_cell _ (by first | decide | omega)) 2).trans q19_2_M4
  have q19_4_M5 : (M5 19 4 = M 19 4) := (congrFun (show M5 19 = M4 19 by rw [hM5]; exact mcp_cell _ (by first | decide | omega)) 4).trans q19_4_M4
  have q19_6_M5 : (M5 19 6 = M 19 6) := (congrFun (show M5 19 = M4 19 by rw [hM5]; exact mcp_cell _ (by first | decide | omega)) 6).trans q19_6_M4
  have xM5_2_5 : M5 2 5 = M 20 5 := (show M5 2 5 = M4 2 5 by rw [hM5]; exact congrFun (mcp_cell _ (by first | decide | omega)) 5).trans xM4_2_5
  have tvM5 := TV.far tvM4 (show Fr (fun c => c = 9) M4 M5 from fun q hq => by rw [hM5]; exact mcp_cell _ hq) (fun c z => by unfold inT; first | omega | (dsimp only at z; omega))
  have wzM5 : ∀ k : Nat, k < 3 → M5 7 k = M 25 k := fun k hk => by rw [hM5, mcp_cell _ (by decide)]; exact wzM4 k hk
  refine g_aload_n (pc' := 56) 0 dX6_copyFrom_55 rfl rfl ?_
  refine g_aload_n (pc' := 57) 1 dX6_copyFrom_56 rfl rfl ?_
  refine g_getI (pc' := 60) dX6_copyFrom_57 rfl f_X6_38 rfl rfl (fun v6 ev6 rv6 => ?_)
  have bv6 : 0 ≤ v6 ∧ v6 ≤ 3 := by rw [ev6]; exact iM5.2.1.2.2.1
  have av6 : v6 = M 19 2 := ev6.trans q19_2_M5
  refine g_putI (pc' := 63) dX6_copyFrom_60 rfl p_X6_38 rfl rfl rv6 (fun M7 hM7 => ?_)
  have iM7 : IC M7 := IC.wr iM5 hM7 (by unfold okw isT; first | decide | omega)
  have fM7 : Fr (fun c => 1 ≤ c ∧ c ≤ 9) M M7 := Fr.wr fM5 hM7 (by first | decide | omega | (dsimp only; omega))
  have q19_2_M7 : (M7 19 2 = M 19 2) := (show M7 19 2 = M5 19 2 by rw [hM7]; exact mu_ne _ _ (by first | decide | omega)).trans q19_2_M5
  have q19_4_M7 : (M7 19 4 = M 19 4) := (show M7 19 4 = M5 19 4 by rw [hM7]; exact mu_ne _ _ (by first | decide | omega)).trans q19_4_M5
  have q19_6_M7 : (M7 19 6 = M 19 6) := (show M7 19 6 = M5 19 6 by rw [hM7]; exact mu_ne _ _ (by first | decide | omega)).trans q19_6_M5
  have xM7_2_5 : M7 2 5 = M 20 5 := (show M7 2 5 = M5 2 5 by rw [hM7]; exact mu_ne _ _ (by first | decide | omega)).trans xM5_2_5
  have xM7_1_2 : M7 1 2 = v6 := by rw [hM7]; exact mu_at _ _ _ _
  have tvM7 := TV.far tvM5 (show Fr (fun c => c = 1) M5 M7 from fun q hq => by rw [hM7]; exact mu_cell _ _ hq) (fun c z => by unfold inT; first | omega | (dsimp only at z; omega))
  have wzM7 : ∀ k : Nat, k < 3 → M7 7 k = M 25 k := fun k hk => by rw [hM7, mu_cell _ _ (by decide)]; exact wzM5 k hk
  refine g_aload_n (pc' := 64) 0 dX6_copyFrom_63 rfl rfl ?_
  refine g_aload_n (pc' := 65) 1 dX6_copyFrom_64 rfl rfl ?_
  refine g_getI (pc' := 68) dX6_copyFrom_65 rfl f_X6_42 rfl rfl (fun v8 ev8 rv8 => ?_)
  have bv8 : 0 ≤ v8 ∧ v8 ≤ 6 := by rw [ev8]; exact iM7.2.1.2.2.2.1
  have av8 : v8 = M 19 4 := ev8.trans q19_4_M7
  refine g_putI (pc' := 71) dX6_copyFrom_68 rfl p_X6_42 rfl rfl rv8 (fun M9 hM9 => ?_)
  have iM9 : IC M9 := IC.wr iM7 hM9 (by unfold okw isT; first | decide | omega)
  have fM9 : Fr (fun c => 1 ≤ c ∧ c ≤ 9) M M9 := Fr.wr fM7 hM9 (by first | decide | omega | (dsimp only; omega))
  have q19_2_M9 : (M9 19 2 = M 19 2) := (show M9 19 2 = M7 19 2 by rw [hM9]; exact mu_ne _ _ (by first | decide | omega)).trans q19_2_M7
  have q19_4_M9 : (M9 19 4 = M 19 4) := (show M9 19 4 = M7 19 4 by rw [hM9]; exact mu_ne _ _ (by first | decide | omega)).trans q19_4_M7
  have q19_6_M9 : (M9 19 6 = M 19 6) := (show M9 19 6 = M7 19 6 by rw [hM9]; exact mu_ne _ _ (by first | decide | omega)).trans q19_6_M7
  have xM9_2_5 : M9 2 5 = M 20 5 := (show M9 2 5 = M7 2 5 by rw [hM9]; exact mu_ne _ _ (by first | decide | omega)).trans xM7_2_5
  have xM9_1_2 : M9 1 2 = v6 := (show M9 1 2 = M7 1 2 by rw [hM9]; exact mu_ne _ _ (by first | decide | omega)).trans xM7_1_2
  have xM9_1_4 : M9 1 4 = v8 := by rw [hM9]; exact mu_at _ _ _ _
  have tvM9 := TV.far tvM7 (show Fr (fun c => c = 1) M7 M9 from fun q hq => by rw [hM9]; exact mu_cell _ _ hq) (fun c z => by unfold inT; first | omega | (dsimp only at z; omega))
  have wzM9 : ∀ k : Nat, k < 3 → M9 7 k = M 25 k := fun k hk => by rw [hM9, mu_cell _ _ (by decide)]; exact wzM7 k hk
  refine g_aload_n (pc' := 72) 0 dX6_copyFrom_71 rfl rfl ?_
  refine g_aload_n (pc' := 73) 1 dX6_copyFrom_72 rfl rfl ?_
  refine g_getI (pc' := 76) dX6_copyFrom_73 rfl f_X6_45 rfl rfl (fun v10 ev10 rv10 => ?_)
  have bv10 : 0 ≤ v10 ∧ v10 ≤ 6 := by rw [ev10]; exact iM9.2.1.2.2.2.2
  have av10 : v10 = M 19 6 := ev10.trans q19_6_M9
  refine g_putI (pc' := 79) dX6_copyFrom_76 rfl p_X6_45 rfl rfl rv10 (fun M11 hM11 => ?_)
  have iM11 : IC M11 := IC.wr iM9 hM11 (by unfold okw isT; first | decide | omega)
  have fM11 : Fr (fun c => 1 ≤ c ∧ c ≤ 9) M M11 := Fr.wr fM9 hM11 (by first | decide | omega | (dsimp only; omega))
  have q19_2_M11 : (M11 19 2 = M 19 2) := (show M11 19 2 = M9 19 2 by rw [hM11]; exact mu_ne _ _ (by first | decide | omega)).trans q19_2_M9
  have q19_4_M11 : (M11 19 4 = M 19 4) := (show M11 19 4 = M9 19 4 by rw [hM11]; exact mu_ne _ _ (by first | decide | omega)).trans q19_4_M9
  have q19_6_M11 : (M11 19 6 = M 19 6) := (show M11 19 6 = M9 19 6 by rw [hM11]; exact mu_ne _ _ (by first | decide | omega)).trans q19_6_M9
  have xM11_2_5 : M11 2 5 = M 20 5 := (show M11 2 5 = M9 2 5 by rw [hM11]; exact mu_ne _ _ (by first | decide | omega)).trans xM9_2_5
  have xM11_1_2 : M11 1 2 = v6 := (show M11 1 2 = M9 1 2 by rw [hM11]; exact mu_ne _ _ (by first | decide | omega)).trans xM9_1_2
  have xM11_1_4 : M11 1 4 = v8 := (show M11 1 4 = M9 1 4 by rw [hM11]; exact mu_ne _ _ (by first | decide | omega)).trans xM9_1_4
  have xM11_1_6 : M11 1 6 = v10 := by rw [hM11]; exact mu_at _ _ _ _
  have tvM11 := TV.far tvM9 (show Fr (fun c => c = 1) M9 M11 from fun q hq => by rw [hM11]; exact mu_cell _ _ hq) (fun c z => by unfold inT; first | omega | (dsimp only at z; omega))
  have wzM11 : ∀ k : Nat, k < 3 → M11 7 k = M 25 k := fun k hk => by rw [hM11, mu_cell _ _ (by decide)]; exact wzM9 k hk
  refine g_vreturn dX6_copyFrom_79 ?_
  exact ⟨iM11, fM11, by omega, wzM11, (M 2 2).toNat, (M 2 3).toNat, P1, F1, Z1, tvM11, cp1, cp2, cp3⟩
set_option maxHeartbeats 4000000 in
set_option maxRecDepth 100000 in
theorem c_X9_keepImage_x (X : Cx) (M : Mm) (hi : IC M) (a : Int) (ha : inI a) (ta tb : Nat) (n : Int) (P : Nat → Int) (L : Int) (F Z m z : Nat → Int) (tv : TV M 2 ta tb n P L F Z) (pub : PUB n P L F Z m z) : Con X 4 yX9_keepImage cX9_keepImage 2 (some .int) [vr X 0, vi a] M (Qi (fun r M1 => IC M1 ∧ Fr (fun c => (10 ≤ c ∧ c ≤ 27) ∨ c = 29) M M1 ∧ M1 2 5 = M 2 5 ∧ M1 1 2 = M 1 2 ∧ M1 1 4 = M 1 4 ∧ M1 1 6 = M 1 6 ∧ M1 31 1 = M 31 1 ∧ M1 0 11 = M 0 11 ∧ M1 0 12 = M 0 12 ∧ M1 0 13 = M 0 13 ∧ M1 0 10 = M 0 10 ∧ ((((a < 0 ∨ 1 < a) → r = -1 ∧ M1 11 5 = M 11 5 ∧ M1 10 2 = M 10 2 ∧ M1 10 4 = M 10 4 ∧ M1 10 6 = M 10 6 ∧ M1 29 0 = M 29 0 ∧ M1 20 5 = M 20 5 ∧ M1 19 2 = M 19 2 ∧ M1 19 4 = M 19 4 ∧ M1 19 6 = M 19 6 ∧ M1 29 1 = M 29 1) ∧ (a = 0 → r = 0 ∧ M1 11 5 = M 2 5 ∧ M1 10 2 = M 1 2 ∧ M1 10 4 = M 1 4 ∧ M1 10 6 = M 1 6 ∧ M1 29 0 = 1 ∧ M1 20 5 = M 20 5 ∧ M1 19 2 = M 19 2 ∧ M1 19 4 = M 19 4 ∧ M1 19 6 = M 19 6 ∧ M1 29 1 = M 29 1) ∧ (a = 1 → r = 0 ∧ M1 20 5 = M 2 5 ∧ M1 19 2 = M 1 2 ∧ M1 19 4 = M 1 4 ∧ M1 19 6 = M 1 6 ∧ M1 29 1 = 1 ∧ M1 11 5 = M 11 5 ∧ M1 10 2 = M 10 2 ∧ M1 10 4 = M 10 4 ∧ M1 10 6 = M 10 6 ∧ M1 29 0 = M 29 0)) ∧ (a = 0 → PB M1 11 n m z ∧ (∀ k : Nat, k < 3 → M1 16 k = M 7 k) ∧ (∀ c : Nat, 19 ≤ c → c ≤ 27 → M1 c = M c)) ∧ (a = 1 → PB M1 20 n m z ∧ (∀ k : Nat, k < 3 → M1 25 k = M 7 k) ∧ (∀ c : Nat, 10 ≤ c → c ≤ 18 → M1 c = M c)) ∧ (¬ (a = 0 ∨ a = 1) → ∀ c : Nat, 10 ≤ c → c ≤ 27 → M1 c = M c)))) := by
  refine Con.ofG rfl (Nat.le_of_ble_eq_true rfl) ?_
  show G X 4 RX9 cX9_keepImage 2 (some .int) (Qi (fun r M1 => IC M1 ∧ Fr (fun c => (10 ≤ c ∧ c ≤ 27) ∨ c = 29) M M1 ∧ M1 2 5 = M 2 5 ∧ M1 1 2 = M 1 2 ∧ M1 1 4 = M 1 4 ∧ M1 1 6 = M 1 6 ∧ M1 31 1 = M 31 1 ∧ M1 0 11 = M 0 11 ∧ M1 0 12 = M 0 12 ∧ M1 0 13 = M 0 13 ∧ M1 0 10 = M 0 10 ∧ ((((a < 0 ∨ 1 < a) → r = -1 ∧ M1 11 5 = M 11 5 ∧ M1 10 2 = M 10 2 ∧ M1 10 4 = M 10 4 ∧ M1 10 6 = M 10 6 ∧ M1 29 0 = M 29 0 ∧ M1 20 5 = M 20 5 ∧ M1 19 2 = M 19 2 ∧ M1 19 4 = M 19 4 ∧ M1 19 6 = M 19 6 ∧ M1 29 1 = M 29 1) ∧ (a = 0 → r = 0 ∧ M1 11 5 = M 2 5 ∧ M1 10 2 = M 1 2 ∧ M1 10 4 = M 1 4 ∧ M1 10 6 = M 1 6 ∧ M1 29 0 = 1 ∧ M1 20 5 = M 20 5 ∧ M1 19 2 = M 19 2 ∧ M1 19 4 = M 19 4 ∧ M1 19 6 = M 19 6 ∧ M1 29 1 = M 29 1) ∧ (a = 1 → r = 0 ∧ M1 20 5 = M 2 5 ∧ M1 19 2 = M 1 2 ∧ M1 19 4 = M 1 4 ∧ M1 19 6 = M 1 6 ∧ M1 29 1 = 1 ∧ M1 11 5 = M 11 5 ∧ M1 10 2 = M 10 2 ∧ M1 10 4 = M 10 4 ∧ M1 10 6 = M 10 6 ∧ M1 29 0 = M 29 0)) ∧ (a = 0 → PB M1 11 n m z ∧ (∀ k : Nat, k < 3 → M1 16 k = M 7 k) ∧ (∀ c : Nat, 19 ≤ c → c ≤ 27 → M1 c = M c)) ∧ (a = 1 → PB M1 20 n m z ∧ (∀ k : Nat, k < 3 → M1 25 k = M 7 k) ∧ (∀ c : Nat, 10 ≤ c → c ≤ 18 → M1 c = M c)) ∧ (¬ (a = 0 ∨ a = 1) → ∀ c : Nat, 10 ≤ c → c ≤ 27 → M1 c = M c)))) 0 [(0, vr X 0), (1, vi a)] [] M
  have tn := tv.2.2.1
  have ctn := pub.1.1
  have hi5 := (hi.1 2 isT_2).2.1
  have hi4 := (hi.1 2 isT_2).1
  have h12 := hi.2.1.1.1
  have h14 := hi.2.1.1.2.1
  have h16 := hi.2.1.1.2.2
  refine g_iload_n (pc' := 1) 1 dX9_keepImage_0 rfl rfl ?_
  refine g_if_lt (pc' := 4) (tgt := 9) ha dX9_keepImage_1 rfl rfl (fun c1 => ?_) (fun c1 => ?_)
  · refine g_iconst (pc' := 10) dX9_keepImage_9 rfl ?_
    refine g_ireturn dX9_keepImage_10 ?_
    exact ⟨hi, Fr.rf, rfl, rfl, rfl, rfl, rfl, rfl, rfl, rfl, rfl, by omega, fun q => absurd q (by omega), fun q => absurd q (by omega), fun _ _ _ _ => rfl⟩
  · refine g_iload_n (pc' := 5) 1 dX9_keepImage_4 rfl rfl ?_
    refine g_iconst (pc' := 6) dX9_keepImage_5 rfl ?_
    refine g_ic_lt (pc' := 9) (tgt := 11) ha (by decide) dX9_keepImage_6 rfl rfl (fun c2 => ?_) (fun c2 => ?_)
    · refine g_aload_n (pc' := 12) 0 dX9_keepImage_11 rfl rfl ?_
      refine g_getR (pc' := 15) dX9_keepImage_12 rfl f_X9_16 rfl rfl ?_
      rcases (show a = 0 ∨ a = 1 by omega) with rfl | rfl
      · refine g_iload_n (pc' := 16) 1 dX9_keepImage_15 rfl rfl ?_
        refine g_aald (pc' := 17) (t := 0) (C := RX6) dX9_keepImage_16 rfl rfl (fun _ => rfl) (by decide) (by decide) ?_
        refine g_aload_n (pc' := 18) 0 dX9_keepImage_17 rfl rfl ?_
        refine g_getR (pc' := 21) dX9_keepImage_18 rfl f_X9_12 rfl rfl ?_
        refine g_callVv (pc' := 24) (As := [vr X 1]) (b := 10) (S := []) dX9_keepImage_21 rfl m_X9_289 w_X6_copyFrom (c_X6_copyFrom_10_1_x X M hi ta tb n P L F Z tv ctn) rfl ⟨_, _, _, rfl, rfl, rfl⟩ (by decide) (by decide) rfl (Nat.le_of_ble_eq_true rfl) (fun M4 q3 => ?_)
        obtain ⟨iM4, fM40, pM4⟩ := q3
        have fM4 : Fr (fun c => (10 ≤ c ∧ c ≤ 27) ∨ c = 29) M M4 := Fr.tr Fr.rf fM40 fi_72
        have q2_5_M4 : id (M4 2 5 = M 2 5) := (congrFun (fM40 2 (by first | decide | omega | (dsimp only; omega))) 5)
        have q1_2_M4 : id (M4 1 2 = M 1 2) := (congrFun (fM40 1 (by first | decide | omega | (dsimp only; omega))) 2)
        have q1_4_M4 : id (M4 1 4 = M 1 4) := (congrFun (fM40 1 (by first | decide | omega | (dsimp only; omega))) 4)
        have q1_6_M4 : id (M4 1 6 = M 1 6) := (congrFun (fM40 1 (by first | decide | omega | (dsimp only; omega))) 6)
        have q31_1_M4 : id (M4 31 1 = M 31 1) := (congrFun (fM40 31 (by first | decide | omega | (dsimp only; omega))) 1)
        have q0_11_M4 : id (M4 0 11 = M 0 11) := (congrFun (fM40 0 (by first | decide | omega | (dsimp only; omega))) 11)
        have q0_12_M4 : id (M4 0 12 = M 0 12) := (congrFun (fM40 0 (by first | decide | omega | (dsimp only; omega))) 12)
        have q0_13_M4 : id (M4 0 13 = M 0 13) := (congrFun (fM40 0 (by first | decide | omega | (dsimp only; omega))) 13)
        have q0_10_M4 : id (M4 0 10 = M 0 10) := (congrFun (fM40 0 (by first | decide | omega | (dsimp only; omega))) 10)
        have q29_0_M4 : (M4 29 0 = M 29 0) := (congrFun (fM40 29 (by first | decide | omega | (dsimp only; omega))) 0)
        have q20_5_M4 : (M4 20 5 = M 20 5) := (congrFun (fM40 20 (by first | decide | omega | (dsimp only; omega))) 5)
        have q19_2_M4 : (M4 19 2 = M 19 2) := (congrFun (fM40 19 (by first | decide | omega | (dsimp only; omega))) 2)
        have q19_4_M4 : (M4 19 4 = M 19 4) := (congrFun (fM40 19 (by first | decide | omega | (dsimp only; omega))) 4)
        have q19_6_M4 : (M4 19 6 = M 19 6) := (congrFun (fM40 19 (by first | decide | omega | (dsimp only; omega))) 6)
        have q29_1_M4 : (M4 29 1 = M 29 1) := (congrFun (fM40 29 (by first | decide | omega | (dsimp only; omega))) 1)
        have wM4_29_0 : M4 29 0 = M 29 0 := (congrFun (fM40 29 (by first | decide | omega | (dsimp only; omega))) 0)
        have wM4_20_5 : M4 20 5 = M 20 5 := (congrFun (fM40 20 (by first | decide | omega | (dsimp only; omega))) 5)
        have wM4_19_2 : M4 19 2 = M 19 2 := (congrFun (fM40 19 (by first | decide | omega | (dsimp only; omega))) 2)
        have wM4_19_4 : M4 19 4 = M 19 4 := (congrFun (fM40 19 (by first | decide | omega | (dsimp only; omega))) 4)
        have wM4_19_6 : M4 19 6 = M 19 6 := (congrFun (fM40 19 (by first | decide | omega | (dsimp only; omega))) 6)
        have wM4_29_1 : M4 29 1 = M 29 1 := (congrFun (fM40 29 (by first | decide | omega | (dsimp only; omega))) 1)
        obtain ⟨pzM4, spM4, a1, b1, P1, F1, Z1, tvM4, cp1, cp2, cp3⟩ := pM4
        refine g_aload_n (pc' := 25) 0 dX9_keepImage_24 rfl rfl ?_
        refine g_getR (pc' := 28) dX9_keepImage_25 rfl f_X9_20 rfl rfl ?_
        refine g_iload_n (pc' := 29) 1 dX9_keepImage_28 rfl rfl ?_
        refine g_iconst (pc' := 30) dX9_keepImage_29 rfl ?_
        refine g_zast (pc' := 31) dX9_keepImage_30 rfl rfl (by decide) (by decide) (by omega) (fun M5 hM5 => ?_)
        have iM5 : IC M5 := IC.wr iM4 hM5 (by unfold okw isT; first | decide | omega)
        have fM5 : Fr (fun c => (10 ≤ c ∧ c ≤ 27) ∨ c = 29) M M5 := Fr.wr fM4 hM5 (by first | decide | omega | (dsimp only; omega))
        have q2_5_M5 : id (M5 2 5 = M 2 5) := (show M5 2 5 = M4 2 5 by rw [hM5]; exact mu_ne _ _ (by first | decide | omega)).trans q2_5_M4
        have q1_2_M5 : id (M5 1 2 = M 1 2) := (show M5 1 2 = M4 1 2 by rw [hM5]; exact mu_ne _ _ (by first | decide | omega)).trans q1_2_M4
        have q1_4_M5 : id (M5 1 4 = M 1 4) := (show M5 1 4 = M4 1 4 by rw [hM5]; exact mu_ne _ _ (by first | decide | omega)).trans q1_4_M4
        have q1_6_M5 : id (M5 1 6 = M 1 6) := (show M5 1 6 = M4 1 6 by rw [hM5]; exact mu_ne _ _ (by first | decide | omega)).trans q1_6_M4
        have q31_1_M5 : id (M5 31 1 = M 31 1) := (show M5 31 1 = M4 31 1 by rw [hM5]; exact mu_ne _ _ (by first | decide | omega)).trans q31_1_M4
        have q0_11_M5 : id (M5 0 11 = M 0 11) := (show M5 0 11 = M4 0 11 by rw [hM5]; exact mu_ne _ _ (by first | decide | omega)).trans q0_11_M4
        have q0_12_M5 : id (M5 0 12 = M 0 12) := (show M5 0 12 = M4 0 12 by rw [hM5]; exact mu_ne _ _ (by first | decide | omega)).trans q0_12_M4
        have q0_13_M5 : id (M5 0 13 = M 0 13) := (show M5 0 13 = M4 0 13 by rw [hM5]; exact mu_ne _ _ (by first | decide | omega)).trans q0_13_M4
        have q0_10_M5 : id (M5 0 10 = M 0 10) := (show M5 0 10 = M4 0 10 by rw [hM5]; exact mu_ne _ _ (by first | decide | omega)).trans q0_10_M4
        have q20_5_M5 : (M5 20 5 = M 20 5) := (show M5 20 5 = M4 20 5 by rw [hM5]; exact mu_ne _ _ (by first | decide | omega)).trans q20_5_M4
        have q19_2_M5 : (M5 19 2 = M 19 2) := (show M5 19 2 = M4 19 2 by rw [hM5]; exact mu_ne _ _ (by first | decide | omega)).trans q19_2_M4
        have q19_4_M5 : (M5 19 4 = M 19 4) := (show M5 19 4 = M4 19 4 by rw [hM5]; exact mu_ne _ _ (by first | decide | omega)).trans q19_4_M4
        have q19_6_M5 : (M5 19 6 = M 19 6) := (show M5 19 6 = M4 19 6 by rw [hM5]; exact mu_ne _ _ (by first | decide | omega)).trans q19_6_M4
        have q29_1_M5 : (M5 29 1 = M 29 1) := (show M5 29 1 = M4 29 1 by rw [hM5]; exact mu_ne _ _ (by first | decide | omega)).trans q29_1_M4
        have wM5_11_5 : M5 11 5 = M4 11 5 := by rw [hM5]; exact mu_ne _ _ (by first | decide | omega)
        have wM5_10_2 : M5 10 2 = M4 10 2 := by rw [hM5]; exact mu_ne _ _ (by first | decide | omega)
        have wM5_10_4 : M5 10 4 = M4 10 4 := by rw [hM5]; exact mu_ne _ _ (by first | decide | omega)
        have wM5_10_6 : M5 10 6 = M4 10 6 := by rw [hM5]; exact mu_ne _ _ (by first | decide | omega)
        have wM5_20_5 : M5 20 5 = M4 20 5 := by rw [hM5]; exact mu_ne _ _ (by first | decide | omega)
        have wM5_19_2 : M5 19 2 = M4 19 2 := by rw [hM5]; exact mu_ne _ _ (by first | decide | omega)
        have wM5_19_4 : M5 19 4 = M4 19 4 := by rw [hM5]; exact mu_ne _ _ (by first | decide | omega)
        have wM5_19_6 : M5 19 6 = M4 19 6 := by rw [hM5]; exact mu_ne _ _ (by first | decide | omega)
        have wM5_29_1 : M5 29 1 = M4 29 1 := by rw [hM5]; exact mu_ne _ _ (by first | decide | omega)
        have xM5_29_0 : M5 29 0 = 1 := by rw [hM5]; exact mu_at _ _ _ _
        have tvM5 := TV.far tvM4 (show Fr (fun c => c = 29) M4 M5 from fun q hq => by rw [hM5]; exact mu_cell _ _ hq) (fun c z => by unfold inT; first | omega | (dsimp only at z; omega))
        refine g_iconst (pc' := 32) dX9_keepImage_31 rfl ?_
        refine g_ireturn dX9_keepImage_32 ?_
        exact ⟨iM5, fM5, q2_5_M5, q1_2_M5, q1_4_M5, q1_6_M5, q31_1_M5, q0_11_M5, q0_12_M5, q0_13_M5, q0_10_M5, by omega, fun _ => ⟨⟨a1, b1, P1, L, F1, Z1, tvM5, pub.cp cp1 cp2 cp3⟩, fun k hk => by rw [hM5, mu_cell _ _ (by decide)]; exact spM4 k hk, fun c h1 h2 => by rw [hM5, mu_cell _ _ (by omega)]; exact fM40 c (by first | omega | (dsimp only; omega))⟩, fun q => absurd q (by decide), fun q => absurd (Or.inl rfl) q⟩
      · refine g_iload_n (pc' := 16) 1 dX9_keepImage_15 rfl rfl ?_
        refine g_aald (pc' := 17) (t := 0) (C := RX6) dX9_keepImage_16 rfl rfl (fun _ => rfl) (by decide) (by decide) ?_
        refine g_aload_n (pc' := 18) 0 dX9_keepImage_17 rfl rfl ?_
        refine g_getR (pc' := 21) dX9_keepImage_18 rfl f_X9_12 rfl rfl ?_
        refine g_callVv (pc' := 24) (As := [vr X 1]) (b := 19) (S := []) dX9_keepImage_21 rfl m_X9_289 w_X6_copyFrom (c_X6_copyFrom_19_1_x X M hi ta tb n P L F Z tv ctn) rfl ⟨_, _, _, rfl, rfl, rfl⟩ (by decide) (by decide) rfl (Nat.le_of_ble_eq_true rfl) (fun M7 q6 => ?_)
        obtain ⟨iM7, fM70, pM7⟩ := q6
        have fM7 : Fr (fun c => (10 ≤ c ∧ c ≤ 27) ∨ c = 29) M M7 := Fr.tr Fr.rf fM70 fi_73
        have q2_5_M7 : id (M7 2 5 = M 2 5) := (congrFun (fM70 2 (by first | decide | omega | (dsimp only; omega))) 5)
        have q1_2_M7 : id (M7 1 2 = M 1 2) := (congrFun (fM70 1 (by first | decide | omega | (dsimp only; omega))) 2)
        have q1_4_M7 : id (M7 1 4 = M 1 4) := (congrFun (fM70 1 (by first | decide | omega | (dsimp only; omega))) 4)
        have q1_6_M7 : id (M7 1 6 = M 1 6) := (congrFun (fM70 1 (by first | decide | omega | (dsimp only; omega))) 6)
        have q31_1_M7 : id (M7 31 1 = M 31 1) := (congrFun (fM70 31 (by first | decide | omega | (dsimp only; omega))) 1)
        have q0_11_M7 : id (M7 0 11 = M 0 11) := (congrFun (fM70 0 (by first | decide | omega | (dsimp only; omega))) 11)
        have q0_12_M7 : id (M7 0 12 = M 0 12) := (congrFun (fM70 0 (by first | decide | omega | (dsimp only; omega))) 12)
        have q0_13_M7 : id (M7 0 13 = M 0 13) := (congrFun (fM70 0 (by first | decide | omega | (dsimp only; omega))) 13)
        have q0_10_M7 : id (M7 0 10 = M 0 10) := (congrFun (fM70 0 (by first | decide | omega | (dsimp only; omega))) 10)
        have q11_5_M7 : (M7 11 5 = M 11 5) := (congrFun (fM70 11 (by first | decide | omega | (dsimp only; omega))) 5)
        have q10_2_M7 : (M7 10 2 = M 10 2) := (congrFun (fM70 10 (by first | decide | omega | (dsimp only; omega))) 2)
        have q10_4_M7 : (M7 10 4 = M 10 4) := (congrFun (fM70 10 (by first | decide | omega | (dsimp only; omega))) 4)
        have q10_6_M7 : (M7 10 6 = M 10 6) := (congrFun (fM70 10 (by first | decide | omega | (dsimp only; omega))) 6)
        have q29_0_M7 : (M7 29 0 = M 29 0) := (congrFun (fM70 29 (by first | decide | omega | (dsimp only; omega))) 0)
        have q29_1_M7 : (M7 29 1 = M 29 1) := (congrFun (fM70 29 (by first | decide | omega | (dsimp only; omega))) 1)
        have wM7_11_5 : M7 11 5 = M 11 5 := (congrFun (fM70 11 (by first | decide | omega | (dsimp only; omega))) 5)
        have wM7_10_2 : M7 10 2 = M 10 2 := (congrFun (fM70 10 (by first | decide | omega | (dsimp only; omega))) 2)
        have wM7_10_4 : M7 10 4 = M 10 4 := (congrFun (fM70 10 (by first | decide | omega | (dsimp only; omega))) 4)
        have wM7_10_6 : M7 10 6 = M 10 6 := (congrFun (fM70 10 (by first | decide | omega | (dsimp only; omega))) 6)
        have wM7_29_0 : M7 29 0 = M 29 0 := (congrFun (fM70 29 (by first | decide | omega | (dsimp only; omega))) 0)
        have wM7_29_1 : M7 29 1 = M 29 1 := (congrFun (fM70 29 (by first | decide | omega | (dsimp only; omega))) 1)
        obtain ⟨pzM7, spM7, a1, b1, P1, F1, Z1, tvM7, cp1, cp2, cp3⟩ := pM7
        refine g_aload_n (pc' := 25) 0 dX9_keepImage_24 rfl rfl ?_
        refine g_getR (pc' := 28) dX9_keepImage_25 rfl f_X9_20 rfl rfl ?_
        refine g_iload_n (pc' := 29) 1 dX9_keepImage_28 rfl rfl ?_
        refine g_iconst (pc' := 30) dX9_keepImage_29 rfl ?_
        refine g_zast (pc' := 31) dX9_keepImage_30 rfl rfl (by decide) (by decide) (by omega) (fun M8 hM8 => ?_)
        have iM8 : IC M8 := IC.wr iM7 hM8 (by unfold okw isT; first | decide | omega)
        have fM8 : Fr (fun c => (10 ≤ c ∧ c ≤ 27) ∨ c = 29) M M8 := Fr.wr fM7 hM8 (by first | decide | omega | (dsimp only; omega))
        have q2_5_M8 : id (M8 2 5 = M 2 5) := (show M8 2 5 = M7 2 5 by rw [hM8]; exact mu_ne _ _ (by first | decide | omega)).trans q2_5_M7
        have q1_2_M8 : id (M8 1 2 = M 1 2) := (show M8 1 2 = M7 1 2 by rw [hM8]; exact mu_ne _ _ (by first | decide | omega)).trans q1_2_M7
        have q1_4_M8 : id (M8 1 4 = M 1 4) := (show M8 1 4 = M7 1 4 by rw [hM8]; exact mu_ne _ _ (by first | decide | omega)).trans q1_4_M7
        have q1_6_M8 : id (M8 1 6 = M 1 6) := (show M8 1 6 = M7 1 6 by rw [hM8]; exact mu_ne _ _ (by first | decide | omega)).trans q1_6_M7
        have q31_1_M8 : id (M8 31 1 = M 31 1) := (show M8 31 1 = M7 31 1 by rw [hM8]; exact mu_ne _ _ (by first | decide | omega)).trans q31_1_M7
        have q0_11_M8 : id (M8 0 11 = M 0 11) := (show M8 0 11 = M7 0 11 by rw [hM8]; exact mu_ne _ _ (by first | decide | omega)).trans q0_11_M7
        have q0_12_M8 : id (M8 0 12 = M 0 12) := (show M8 0 12 = M7 0 12 by rw [hM8]; exact mu_ne _ _ (by first | decide | omega)).trans q0_12_M7
        have q0_13_M8 : id (M8 0 13 = M 0 13) := (show M8 0 13 = M7 0 13 by rw [hM8]; exact mu_ne _ _ (by first | decide | omega)).trans q0_13_M7
        have q0_10_M8 : id (M8 0 10 = M 0 10) := (show M8 0 10 = M7 0 10 by rw [hM8]; exact mu_ne _ _ (by first | decide | omega)).trans q0_10_M7
        have q11_5_M8 : (M8 11 5 = M 11 5) := (show M8 11 5 = M7 11 5 by rw [hM8]; exact mu_ne _ _ (by first | decide | omega)).trans q11_5_M7
        have q10_2_M8 : (M8 10 2 = M 10 2) := (show M8 10 2 = M7 10 2 by rw [hM8]; exact mu_ne _ _ (by first | decide | omega)).trans q10_2_M7
        have q10_4_M8 : (M8 10 4 = M 10 4) := (show M8 10 4 = M7 10 4 by rw [hM8]; exact mu_ne _ _ (by first | decide | omega)).trans q10_4_M7
        have q10_6_M8 : (M8 10 6 = M 10 6) := (show M8 10 6 = M7 10 6 by rw [hM8]; exact mu_ne _ _ (by first | decide | omega)).trans q10_6_M7
        have q29_0_M8 : (M8 29 0 = M 29 0) := (show M8 29 0 = M7 29 0 by rw [hM8]; exact mu_ne _ _ (by first | decide | omega)).trans q29_0_M7
        have wM8_11_5 : M8 11 5 = M7 11 5 := by rw [hM8]; exact mu_ne _ _ (by first | decide | omega)
        have wM8_10_2 : M8 10 2 = M7 10 2 := by rw [hM8]; exact mu_ne _ _ (by first | decide | omega)
        have wM8_10_4 : M8 10 4 = M7 10 4 := by rw [hM8]; exact mu_ne _ _ (by first | decide | omega)
        have wM8_10_6 : M8 10 6 = M7 10 6 := by rw [hM8]; exact mu_ne _ _ (by first | decide | omega)
        have wM8_29_0 : M8 29 0 = M7 29 0 := by rw [hM8]; exact mu_ne _ _ (by first | decide | omega)
        have wM8_20_5 : M8 20 5 = M7 20 5 := by rw [hM8]; exact mu_ne _ _ (by first | decide | omega)
        have wM8_19_2 : M8 19 2 = M7 19 2 := by rw [hM8]; exact mu_ne _ _ (by first | decide | omega)
        have wM8_19_4 : M8 19 4 = M7 19 4 := by rw [hM8]; exact mu_ne _ _ (by first | decide | omega)
        have wM8_19_6 : M8 19 6 = M7 19 6 := by rw [hM8]; exact mu_ne _ _ (by first | decide | omega)
        have xM8_29_1 : M8 29 1 = 1 := by rw [hM8]; exact mu_at _ _ _ _
        have tvM8 := TV.far tvM7 (show Fr (fun c => c = 29) M7 M8 from fun q hq => by rw [hM8]; exact mu_cell _ _ hq) (fun c z => by unfold inT; first | omega | (dsimp only at z; omega))
        refine g_iconst (pc' := 32) dX9_keepImage_31 rfl ?_
        refine g_ireturn dX9_keepImage_32 ?_
        exact ⟨iM8, fM8, q2_5_M8, q1_2_M8, q1_4_M8, q1_6_M8, q31_1_M8, q0_11_M8, q0_12_M8, q0_13_M8, q0_10_M8, by omega, fun q => absurd q (by decide), fun _ => ⟨⟨a1, b1, P1, L, F1, Z1, tvM8, pub.cp cp1 cp2 cp3⟩, fun k hk => by rw [hM8, mu_cell _ _ (by decide)]; exact spM7 k hk, fun c h1 h2 => by rw [hM8, mu_cell _ _ (by omega)]; exact fM70 c (by first | omega | (dsimp only; omega))⟩, fun q => absurd (Or.inr rfl) q⟩
    · refine g_iconst (pc' := 10) dX9_keepImage_9 rfl ?_
      refine g_ireturn dX9_keepImage_10 ?_
      exact ⟨hi, Fr.rf, rfl, rfl, rfl, rfl, rfl, rfl, rfl, rfl, rfl, by omega, fun q => absurd q (by omega), fun q => absurd q (by omega), fun _ _ _ _ => rfl⟩
set_option maxHeartbeats 4000000 in
set_option maxRecDepth 100000 in
theorem c_X9_image_x (X : Cx) (M : Mm) (hi : IC M) (a : Int) (ha : inI a) (ta tb : Nat) (n : Int) (P : Nat → Int) (L : Int) (F Z m z : Nat → Int) (tv : TV M 2 ta tb n P L F Z) (pub : PUB n P L F Z m z) : Con X 5 yX9_image cX9_image 2 (some .int) [vr X 0, vi a] M (Qi (fun r M1 => IC M1 ∧ Fr (fun c => (10 ≤ c ∧ c ≤ 27) ∨ c = 29 ∨ c = 0 ∨ c = 96) M M1 ∧ M1 2 5 = M 2 5 ∧ M1 1 2 = M 1 2 ∧ M1 1 4 = M 1 4 ∧ M1 1 6 = M 1 6 ∧ M1 31 1 = M 31 1 ∧ M1 0 11 = M 0 11 ∧ M1 0 12 = M 0 12 ∧ M1 0 13 = M 0 13 ∧ ((((a < 0 ∨ 1 < a) → r = -1 ∧ M1 11 5 = M 11 5 ∧ M1 10 2 = M 10 2 ∧ M1 10 4 = M 10 4 ∧ M1 10 6 = M 10 6 ∧ M1 29 0 = M 29 0 ∧ M1 20 5 = M 20 5 ∧ M1 19 2 = M 19 2 ∧ M1 19 4 = M 19 4 ∧ M1 19 6 = M 19 6 ∧ M1 29 1 = M 29 1) ∧ (a = 0 → r = 0 ∧ M1 11 5 = M 2 5 ∧ M1 10 2 = M 1 2 ∧ M1 10 4 = M 1 4 ∧ M1 10 6 = M 1 6 ∧ M1 29 0 = 1 ∧ M1 20 5 = M 20 5 ∧ M1 19 2 = M 19 2 ∧ M1 19 4 = M 19 4 ∧ M1 19 6 = M 19 6 ∧ M1 29 1 = M 29 1) ∧ (a = 1 → r = 0 ∧ M1 20 5 = M 2 5 ∧ M1 19 2 = M 1 2 ∧ M1 19 4 = M 1 4 ∧ M1 19 6 = M 1 6 ∧ M1 29 1 = 1 ∧ M1 11 5 = M 11 5 ∧ M1 10 2 = M 10 2 ∧ M1 10 4 = M 10 4 ∧ M1 10 6 = M 10 6 ∧ M1 29 0 = M 29 0)) ∧ ((a = 0 → PB M1 11 n m z ∧ (∀ k : Nat, k < 3 → M1 16 k = M 7 k) ∧ (∀ c : Nat, 19 ≤ c → c ≤ 27 → M1 c = M c)) ∧ (a = 1 → PB M1 20 n m z ∧ (∀ k : Nat, k < 3 → M1 25 k = M 7 k) ∧ (∀ c : Nat, 10 ≤ c → c ≤ 18 → M1 c = M c)) ∧ (¬ (a = 0 ∨ a = 1) → ∀ c : Nat, 10 ≤ c → c ≤ 27 → M1 c = M c)) ∧ M1 0 10 = ngv r ∧ M1 96 = ansF (M 96) r))) := by
  refine Con.ofG rfl (Nat.le_of_ble_eq_true rfl) ?_
  show G X 5 RX9 cX9_image 2 (some .int) (Qi (fun r M1 => IC M1 ∧ Fr (fun c => (10 ≤ c ∧ c ≤ 27) ∨ c = 29 ∨ c = 0 ∨ c = 96) M M1 ∧ M1 2 5 = M 2 5 ∧ M1 1 2 = M 1 2 ∧ M1 1 4 = M 1 4 ∧ M1 1 6 = M 1 6 ∧ M1 31 1 = M 31 1 ∧ M1 0 11 = M 0 11 ∧ M1 0 12 = M 0 12 ∧ M1 0 13 = M 0 13 ∧ ((((a < 0 ∨ 1 < a) → r = -1 ∧ M1 11 5 = M 11 5 ∧ M1 10 2 = M 10 2 ∧ M1 10 4 = M 10 4 ∧ M1 10 6 = M 10 6 ∧ M1 29 0 = M 29 0 ∧ M1 20 5 = M 20 5 ∧ M1 19 2 = M 19 2 ∧ M1 19 4 = M 19 4 ∧ M1 19 6 = M 19 6 ∧ M1 29 1 = M 29 1) ∧ (a = 0 → r = 0 ∧ M1 11 5 = M 2 5 ∧ M1 10 2 = M 1 2 ∧ M1 10 4 = M 1 4 ∧ M1 10 6 = M 1 6 ∧ M1 29 0 = 1 ∧ M1 20 5 = M 20 5 ∧ M1 19 2 = M 19 2 ∧ M1 19 4 = M 19 4 ∧ M1 19 6 = M 19 6 ∧ M1 29 1 = M 29 1) ∧ (a = 1 → r = 0 ∧ M1 20 5 = M 2 5 ∧ M1 19 2 = M 1 2 ∧ M1 19 4 = M 1 4 ∧ M1 19 6 = M 1 6 ∧ M1 29 1 = 1 ∧ M1 11 5 = M 11 5 ∧ M1 10 2 = M 10 2 ∧ M1 10 4 = M 10 4 ∧ M1 10 6 = M 10 6 ∧ M1 29 0 = M 29 0)) ∧ ((a = 0 → PB M1 11 n m z ∧ (∀ k : Nat, k < 3 → M1 16 k = M 7 k) ∧ (∀ c : Nat, 19 ≤ c → c ≤ 27 → M1 c = M c)) ∧ (a = 1 → PB M1 20 n m z ∧ (∀ k : Nat, k < 3 → M1 25 k = M 7 k) ∧ (∀ c : Nat, 10 ≤ c → c ≤ 18 → M1 c = M c)) ∧ (¬ (a = 0 ∨ a = 1) → ∀ c : Nat, 10 ≤ c → c ≤ 27 → M1 c = M c)) ∧ M1 0 10 = ngv r ∧ M1 96 = ansF (M 96) r))) 0 [(0, vr X 0), (1, vi a)] [] M
  have tn := tv.2.2.1
  have ctn := pub.1.1
  have hi5 := (hi.1 2 isT_2).2.1
  have hi4 := (hi.1 2 isT_2).1
  have h12 := hi.2.1.1.1
  have h14 := hi.2.1.1.2.1
  have h16 := hi.2.1.1.2.2
  refine g_aload_n (pc' := 1) 0 dX9_image_0 rfl rfl ?_
  refine g_aload_n (pc' := 2) 0 dX9_image_1 rfl rfl ?_
  refine g_iload_n (pc' := 3) 1 dX9_image_2 rfl rfl ?_
  refine g_callVi (pc' := 6) (As := [vi a]) (b := 0) (S := [vr X 0]) dX9_image_3 rfl m_X9_286 w_X9_keepImage (c_X9_keepImage_x X M hi a ha ta tb n P L F Z m z tv pub) rfl ⟨_, _, _, rfl, rfl, rfl⟩ (by decide) (by decide) rfl (Nat.le_of_ble_eq_true rfl) (fun z2 M3 q1 => ?_)
  obtain ⟨iM3, fM30, eM3_2_5, eM3_1_2, eM3_1_4, eM3_1_6, eM3_31_1, eM3_0_11, eM3_0_12, eM3_0_13, eM3_0_10, pM3⟩ := q1
  have fM3 : Fr (fun c => (10 ≤ c ∧ c ≤ 27) ∨ c = 29 ∨ c = 0 ∨ c = 96) M M3 := Fr.tr Fr.rf fM30 fi_26
  have q2_5_M3 : id (M3 2 5 = M 2 5) := eM3_2_5
  have q1_2_M3 : id (M3 1 2 = M 1 2) := eM3_1_2
  have q1_4_M3 : id (M3 1 4 = M 1 4) := eM3_1_4
  have q1_6_M3 : id (M3 1 6 = M 1 6) := eM3_1_6
  have q31_1_M3 : id (M3 31 1 = M 31 1) := eM3_31_1
  have q0_11_M3 : id (M3 0 11 = M 0 11) := eM3_0_11
  have q0_12_M3 : id (M3 0 12 = M 0 12) := eM3_0_12
  have q0_13_M3 : id (M3 0 13 = M 0 13) := eM3_0_13
  have q0_10_M3 : (M3 0 10 = M 0 10) := eM3_0_10
  have wM3_0_10 : M3 0 10 = M 0 10 := eM3_0_10
  have wM3_0_10 : M3 0 10 = M 0 10 := eM3_0_10
  clear eM3_2_5 eM3_1_2 eM3_1_4 eM3_1_6 eM3_31_1 eM3_0_11 eM3_0_12 eM3_0_13
  have xM3 : (a = 0 → PB M3 11 n m z ∧ (∀ k : Nat, k < 3 → M3 16 k = M 7 k) ∧ (∀ c : Nat, 19 ≤ c → c ≤ 27 → M3 c = M c)) ∧ (a = 1 → PB M3 20 n m z ∧ (∀ k : Nat, k < 3 → M3 25 k = M 7 k) ∧ (∀ c : Nat, 10 ≤ c → c ≤ 18 → M3 c = M c)) ∧ (¬ (a = 0 ∨ a = 1) → ∀ c : Nat, 10 ≤ c → c ≤ 27 → M3 c = M c) := pM3.2
  replace pM3 := pM3.1
  have e96M3 := fM30 96 (by first | decide | omega | (dsimp only; omega))
  refine g_callVi (pc' := 9) (As := [vi z2]) (b := 0) (S := []) dX9_image_6 rfl m_X9_79 w_X9_answered (c_X9_answered_x X M3 iM3 z2 ⟨by omega, by omega⟩) rfl ⟨_, _, _, rfl, rfl, rfl⟩ (by decide) (by decide) rfl (Nat.le_of_ble_eq_true rfl) (fun z5 M6 q4 => ?_)
  obtain ⟨iM6, fM60, eM6_2_5, eM6_1_2, eM6_1_4, eM6_1_6, eM6_11_5, eM6_10_2, eM6_10_4, eM6_10_6, eM6_20_5, eM6_19_2, eM6_19_4, eM6_19_6, eM6_29_0, eM6_29_1, eM6_31_1, eM6_0_11, eM6_0_12, eM6_0_13, pM6⟩ := q4
  have fM6 : Fr (fun c => (10 ≤ c ∧ c ≤ 27) ∨ c = 29 ∨ c = 0 ∨ c = 96) M M6 := Fr.tr fM3 fM60 fi_27
  have q2_5_M6 : id (M6 2 5 = M 2 5) := eM6_2_5.trans q2_5_M3
  have q1_2_M6 : id (M6 1 2 = M 1 2) := eM6_1_2.trans q1_2_M3
  have q1_4_M6 : id (M6 1 4 = M 1 4) := eM6_1_4.trans q1_4_M3
  have q1_6_M6 : id (M6 1 6 = M 1 6) := eM6_1_6.trans q1_6_M3
  have q31_1_M6 : id (M6 31 1 = M 31 1) := eM6_31_1.trans q31_1_M3
  have q0_11_M6 : id (M6 0 11 = M 0 11) := eM6_0_11.trans q0_11_M3
  have q0_12_M6 : id (M6 0 12 = M 0 12) := eM6_0_12.trans q0_12_M3
  have q0_13_M6 : id (M6 0 13 = M 0 13) := eM6_0_13.trans q0_13_M3
  have wM6_11_5 : M6 11 5 = M3 11 5 := eM6_11_5
  have wM6_10_2 : M6 10 2 = M3 10 2 := eM6_10_2
  have wM6_10_4 : M6 10 4 = M3 10 4 := eM6_10_4
  have wM6_10_6 : M6 10 6 = M3 10 6 := eM6_10_6
  have wM6_29_0 : M6 29 0 = M3 29 0 := eM6_29_0
  have wM6_20_5 : M6 20 5 = M3 20 5 := eM6_20_5
  have wM6_19_2 : M6 19 2 = M3 19 2 := eM6_19_2
  have wM6_19_4 : M6 19 4 = M3 19 4 := eM6_19_4
  have wM6_19_6 : M6 19 6 = M3 19 6 := eM6_19_6
  have wM6_29_1 : M6 29 1 = M3 29 1 := eM6_29_1
  clear eM6_2_5 eM6_1_2 eM6_1_4 eM6_1_6 eM6_31_1 eM6_0_11 eM6_0_12 eM6_0_13
  obtain ⟨anM6, asM6, a96M6⟩ := pM6
  rw [e96M3] at a96M6
  subst anM6
  refine g_ireturn dX9_image_9 ?_
  exact ⟨iM6, fM6, q2_5_M6, q1_2_M6, q1_4_M6, q1_6_M6, q31_1_M6, q0_11_M6, q0_12_M6, q0_13_M6, by omega, ⟨fun q => ⟨PB.far (xM3.1 q).1 fM60 (fun c z => by unfold inT; first | omega | (dsimp only at z; omega)), fun k hk => by rw [fM60 16 (by first | decide | omega | (dsimp only; omega))]; exact (xM3.1 q).2.1 k hk, fun c h1 h2 => by rw [fM60 c (by first | decide | omega | (dsimp only; omega))]; exact (xM3.1 q).2.2 c h1 h2⟩, fun q => ⟨PB.far (xM3.2.1 q).1 fM60 (fun c z => by unfold inT; first | omega | (dsimp only at z; omega)), fun k hk => by rw [fM60 25 (by first | decide | omega | (dsimp only; omega))]; exact (xM3.2.1 q).2.1 k hk, fun c h1 h2 => by rw [fM60 c (by first | decide | omega | (dsimp only; omega))]; exact (xM3.2.1 q).2.2 c h1 h2⟩, fun q c h1 h2 => by rw [fM60 c (by first | decide | omega | (dsimp only; omega))]; exact xM3.2.2 q c h1 h2⟩, asM6, a96M6⟩
set_option maxHeartbeats 4000000 in
set_option maxRecDepth 100000 in
theorem c_X9_goBack_x (X : Cx) (M : Mm) (hi : IC M) (a : Int) (ha : inI a) (n0 : Int) (m0 z0 : Nat → Int) (h0 : M 29 0 ≠ 0 → PB M 11 n0 m0 z0) (n1 : Int) (m1 z1 : Nat → Int) (h1 : M 29 1 ≠ 0 → PB M 20 n1 m1 z1) : Con X 4 yX9_goBack cX9_goBack 2 (some .int) [vr X 0, vi a] M (Qi (fun r M1 => IC M1 ∧ Fr (fun c => 1 ≤ c ∧ c ≤ 9) M M1 ∧ M1 11 5 = M 11 5 ∧ M1 10 2 = M 10 2 ∧ M1 10 4 = M 10 4 ∧ M1 10 6 = M 10 6 ∧ M1 20 5 = M 20 5 ∧ M1 19 2 = M 19 2 ∧ M1 19 4 = M 19 4 ∧ M1 19 6 = M 19 6 ∧ M1 29 0 = M 29 0 ∧ M1 29 1 = M 29 1 ∧ M1 31 1 = M 31 1 ∧ M1 0 11 = M 0 11 ∧ M1 0 12 = M 0 12 ∧ M1 0 13 = M 0 13 ∧ M1 0 10 = M 0 10 ∧ ((((a < 0 ∨ 1 < a) → r = -1 ∧ M1 2 5 = M 2 5 ∧ M1 1 2 = M 1 2 ∧ M1 1 4 = M 1 4 ∧ M1 1 6 = M 1 6) ∧ (a = 0 → M 29 0 = 0 → r = -2 ∧ M1 2 5 = M 2 5 ∧ M1 1 2 = M 1 2 ∧ M1 1 4 = M 1 4 ∧ M1 1 6 = M 1 6) ∧ (a = 1 → M 29 1 = 0 → r = -2 ∧ M1 2 5 = M 2 5 ∧ M1 1 2 = M 1 2 ∧ M1 1 4 = M 1 4 ∧ M1 1 6 = M 1 6) ∧ (a = 0 → M 29 0 ≠ 0 → r = 0 ∧ M1 2 5 = M 11 5 ∧ M1 1 2 = M 10 2 ∧ M1 1 4 = M 10 4 ∧ M1 1 6 = M 10 6) ∧ (a = 1 → M 29 1 ≠ 0 → r = 0 ∧ M1 2 5 = M 20 5 ∧ M1 1 2 = M 19 2 ∧ M1 1 4 = M 19 4 ∧ M1 1 6 = M 19 6)) ∧ ((a = 0 ∧ M 29 0 ≠ 0) → PB M1 2 n0 m0 z0 ∧ ∀ k : Nat, k < 3 → M1 7 k = M 16 k) ∧ ((a = 1 ∧ M 29 1 ≠ 0) → PB M1 2 n1 m1 z1 ∧ ∀ k : Nat, k < 3 → M1 7 k = M 25 k) ∧ (¬ ((a = 0 ∧ M 29 0 ≠ 0) ∨ (a = 1 ∧ M 29 1 ≠ 0)) → ∀ c : Nat, 1 ≤ c → c ≤ 9 → M1 c = M c)))) := by
  refine Con.ofG rfl (Nat.le_of_ble_eq_true rfl) ?_
  show G X 4 RX9 cX9_goBack 2 (some .int) (Qi (fun r M1 => IC M1 ∧ Fr (fun c => 1 ≤ c ∧ c ≤ 9) M M1 ∧ M1 11 5 = M 11 5 ∧ M1 10 2 = M 10 2 ∧ M1 10 4 = M 10 4 ∧ M1 10 6 = M 10 6 ∧ M1 20 5 = M 20 5 ∧ M1 19 2 = M 19 2 ∧ M1 19 4 = M 19 4 ∧ M1 19 6 = M 19 6 ∧ M1 29 0 = M 29 0 ∧ M1 29 1 = M 29 1 ∧ M1 31 1 = M 31 1 ∧ M1 0 11 = M 0 11 ∧ M1 0 12 = M 0 12 ∧ M1 0 13 = M 0 13 ∧ M1 0 10 = M 0 10 ∧ ((((a < 0 ∨ 1 < a) → r = -1 ∧ M1 2 5 = M 2 5 ∧ M1 1 2 = M 1 2 ∧ M1 1 4 = M 1 4 ∧ M1 1 6 = M 1 6) ∧ (a = 0 → M 29 0 = 0 → r = -2 ∧ M1 2 5 = M 2 5 ∧ M1 1 2 = M 1 2 ∧ M1 1 4 = M 1 4 ∧ M1 1 6 = M 1 6) ∧ (a = 1 → M 29 1 = 0 → r = -2 ∧ M1 2 5 = M 2 5 ∧ M1 1 2 = M 1 2 ∧ M1 1 4 = M 1 4 ∧ M1 1 6 = M 1 6) ∧ (a = 0 → M 29 0 ≠ 0 → r = 0 ∧ M1 2 5 = M 11 5 ∧ M1 1 2 = M 10 2 ∧ M1 1 4 = M 10 4 ∧ M1 1 6 = M 10 6) ∧ (a = 1 → M 29 1 ≠ 0 → r = 0 ∧ M1 2 5 = M 20 5 ∧ M1 1 2 = M 19 2 ∧ M1 1 4 = M 19 4 ∧ M1 1 6 = M 19 6)) ∧ ((a = 0 ∧ M 29 0 ≠ 0) → PB M1 2 n0 m0 z0 ∧ ∀ k : Nat, k < 3 → M1 7 k = M 16 k) ∧ ((a = 1 ∧ M 29 1 ≠ 0) → PB M1 2 n1 m1 z1 ∧ ∀ k : Nat, k < 3 → M1 7 k = M 25 k) ∧ (¬ ((a = 0 ∧ M 29 0 ≠ 0) ∨ (a = 1 ∧ M 29 1 ≠ 0)) → ∀ c : Nat, 1 ≤ c → c ≤ 9 → M1 c = M c)))) 0 [(0, vr X 0), (1, vi a)] [] M
  have hi5 := (hi.1 2 isT_2).2.1
  have hi4 := (hi.1 2 isT_2).1
  have h12 := hi.2.1.1.1
  have h14 := hi.2.1.1.2.1
  have h16 := hi.2.1.1.2.2
  refine g_iload_n (pc' := 1) 1 dX9_goBack_0 rfl rfl ?_
  refine g_if_lt (pc' := 4) (tgt := 9) ha dX9_goBack_1 rfl rfl (fun c1 => ?_) (fun c1 => ?_)
  · refine g_iconst (pc' := 10) dX9_goBack_9 rfl ?_
    refine g_ireturn dX9_goBack_10 ?_
    exact ⟨hi, Fr.rf, rfl, rfl, rfl, rfl, rfl, rfl, rfl, rfl, rfl, rfl, rfl, rfl, rfl, rfl, rfl, by omega, fun q => absurd q (by omega), fun q => absurd q (by omega), fun _ _ _ _ => rfl⟩
  · refine g_iload_n (pc' := 5) 1 dX9_goBack_4 rfl rfl ?_
    refine g_iconst (pc' := 6) dX9_goBack_5 rfl ?_
    refine g_ic_lt (pc' := 9) (tgt := 11) ha (by decide) dX9_goBack_6 rfl rfl (fun c2 => ?_) (fun c2 => ?_)
    · refine g_aload_n (pc' := 12) 0 dX9_goBack_11 rfl rfl ?_
      refine g_getR (pc' := 15) dX9_goBack_12 rfl f_X9_20 rfl rfl ?_
      rcases (show a = 0 ∨ a = 1 by omega) with rfl | rfl
      · refine g_iload_n (pc' := 16) 1 dX9_goBack_15 rfl rfl ?_
        refine g_zald (pc' := 17) dX9_goBack_16 rfl rfl (by decide) (by decide) (fun v3 ev3 rv3 => ?_)
        have av3 : v3 = M 29 0 := ev3
        refine g_if_ne (pc' := 20) (tgt := 23) rv3 dX9_goBack_17 rfl rfl (fun c4 => ?_) (fun c4 => ?_)
        · obtain ⟨tc, td, P, L, F, Z, tu, pu⟩ := h0 (by omega)
          refine g_aload_n (pc' := 24) 0 dX9_goBack_23 rfl rfl ?_
          refine g_getR (pc' := 27) dX9_goBack_24 rfl f_X9_12 rfl rfl ?_
          refine g_aload_n (pc' := 28) 0 dX9_goBack_27 rfl rfl ?_
          refine g_getR (pc' := 31) dX9_goBack_28 rfl f_X9_16 rfl rfl ?_
          refine g_iload_n (pc' := 32) 1 dX9_goBack_31 rfl rfl ?_
          refine g_aald (pc' := 33) (t := 0) (C := RX6) dX9_goBack_32 rfl rfl (fun _ => rfl) (by decide) (by decide) ?_
          refine g_callVv (pc' := 36) (As := [vr X 10]) (b := 1) (S := []) dX9_goBack_33 rfl m_X9_289 w_X6_copyFrom (c_X6_copyFrom_1_10_x X M hi tc td n0 P L F Z tu pu.1.1) rfl ⟨_, _, _, rfl, rfl, rfl⟩ (by decide) (by decide) rfl (Nat.le_of_ble_eq_true rfl) (fun M6 q5 => ?_)
          obtain ⟨iM6, fM60, pM6⟩ := q5
          have fM6 : Fr (fun c => 1 ≤ c ∧ c ≤ 9) M M6 := Fr.tr Fr.rf fM60 (fun _ z => z)
          have q11_5_M6 : id (M6 11 5 = M 11 5) := (congrFun (fM60 11 (by first | decide | omega | (dsimp only; omega))) 5)
          have q10_2_M6 : id (M6 10 2 = M 10 2) := (congrFun (fM60 10 (by first | decide | omega | (dsimp only; omega))) 2)
          have q10_4_M6 : id (M6 10 4 = M 10 4) := (congrFun (fM60 10 (by first | decide | omega | (dsimp only; omega))) 4)
          have q10_6_M6 : id (M6 10 6 = M 10 6) := (congrFun (fM60 10 (by first | decide | omega | (dsimp only; omega))) 6)
          have q20_5_M6 : id (M6 20 5 = M 20 5) := (congrFun (fM60 20 (by first | decide | omega | (dsimp only; omega))) 5)
          have q19_2_M6 : id (M6 19 2 = M 19 2) := (congrFun (fM60 19 (by first | decide | omega | (dsimp only; omega))) 2)
          have q19_4_M6 : id (M6 19 4 = M 19 4) := (congrFun (fM60 19 (by first | decide | omega | (dsimp only; omega))) 4)
          have q19_6_M6 : id (M6 19 6 = M 19 6) := (congrFun (fM60 19 (by first | decide | omega | (dsimp only; omega))) 6)
          have q29_0_M6 : id (M6 29 0 = M 29 0) := (congrFun (fM60 29 (by first | decide | omega | (dsimp only; omega))) 0)
          have q29_1_M6 : id (M6 29 1 = M 29 1) := (congrFun (fM60 29 (by first | decide | omega | (dsimp only; omega))) 1)
          have q31_1_M6 : id (M6 31 1 = M 31 1) := (congrFun (fM60 31 (by first | decide | omega | (dsimp only; omega))) 1)
          have q0_11_M6 : id (M6 0 11 = M 0 11) := (congrFun (fM60 0 (by first | decide | omega | (dsimp only; omega))) 11)
          have q0_12_M6 : id (M6 0 12 = M 0 12) := (congrFun (fM60 0 (by first | decide | omega | (dsimp only; omega))) 12)
          have q0_13_M6 : id (M6 0 13 = M 0 13) := (congrFun (fM60 0 (by first | decide | omega | (dsimp only; omega))) 13)
          have q0_10_M6 : id (M6 0 10 = M 0 10) := (congrFun (fM60 0 (by first | decide | omega | (dsimp only; omega))) 10)
          obtain ⟨pzM6, spM6, a1, b1, P1, F1, Z1, tvM6, cp1, cp2, cp3⟩ := pM6
          refine g_iconst (pc' := 37) dX9_goBack_36 rfl ?_
          refine g_ireturn dX9_goBack_37 ?_
          exact ⟨iM6, fM6, q11_5_M6, q10_2_M6, q10_4_M6, q10_6_M6, q20_5_M6, q19_2_M6, q19_4_M6, q19_6_M6, q29_0_M6, q29_1_M6, q31_1_M6, q0_11_M6, q0_12_M6, q0_13_M6, q0_10_M6, by omega, fun _ => ⟨⟨a1, b1, P1, L, F1, Z1, tvM6, pu.cp cp1 cp2 cp3⟩, spM6⟩, fun q => absurd q.1 (by decide), fun q => absurd (by omega) q⟩
        · refine g_bipush (pc' := 22) (v := (-2)) dX9_goBack_20 rfl (by decide) ?_
          refine g_ireturn dX9_goBack_22 ?_
          exact ⟨hi, Fr.rf, rfl, rfl, rfl, rfl, rfl, rfl, rfl, rfl, rfl, rfl, rfl, rfl, rfl, rfl, rfl, by omega, fun q => absurd q (by omega), fun q => absurd q (by omega), fun _ _ _ _ => rfl⟩
      · refine g_iload_n (pc' := 16) 1 dX9_goBack_15 rfl rfl ?_
        refine g_zald (pc' := 17) dX9_goBack_16 rfl rfl (by decide) (by decide) (fun v7 ev7 rv7 => ?_)
        have av7 : v7 = M 29 1 := ev7
        refine g_if_ne (pc' := 20) (tgt := 23) rv7 dX9_goBack_17 rfl rfl (fun c8 => ?_) (fun c8 => ?_)
        · obtain ⟨tc, td, P, L, F, Z, tu, pu⟩ := h1 (by omega)
          refine g_aload_n (pc' := 24) 0 dX9_goBack_23 rfl rfl ?_
          refine g_getR (pc' := 27) dX9_goBack_24 rfl f_X9_12 rfl rfl ?_
          refine g_aload_n (pc' := 28) 0 dX9_goBack_27 rfl rfl ?_
          refine g_getR (pc' := 31) dX9_goBack_28 rfl f_X9_16 rfl rfl ?_
          refine g_iload_n (pc' := 32) 1 dX9_goBack_31 rfl rfl ?_
          refine g_aald (pc' := 33) (t := 0) (C := RX6) dX9_goBack_32 rfl rfl (fun _ => rfl) (by decide) (by decide) ?_
          refine g_callVv (pc' := 36) (As := [vr X 19]) (b := 1) (S := []) dX9_goBack_33 rfl m_X9_289 w_X6_copyFrom (c_X6_copyFrom_1_19_x X M hi tc td n1 P L F Z tu pu.1.1) rfl ⟨_, _, _, rfl, rfl, rfl⟩ (by decide) (by decide) rfl (Nat.le_of_ble_eq_true rfl) (fun M10 q9 => ?_)
          obtain ⟨iM10, fM100, pM10⟩ := q9
          have fM10 : Fr (fun c => 1 ≤ c ∧ c ≤ 9) M M10 := Fr.tr Fr.rf fM100 (fun _ z => z)
          have q11_5_M10 : id (M10 11 5 = M 11 5) := (congrFun (fM100 11 (by first | decide | omega | (dsimp only; omega))) 5)
          have q10_2_M10 : id (M10 10 2 = M 10 2) := (congrFun (fM100 10 (by first | decide | omega | (dsimp only; omega))) 2)
          have q10_4_M10 : id (M10 10 4 = M 10 4) := (congrFun (fM100 10 (by first | decide | omega | (dsimp only; omega))) 4)
          have q10_6_M10 : id (M10 10 6 = M 10 6) := (congrFun (fM100 10 (by first | decide | omega | (dsimp only; omega))) 6)
          have q20_5_M10 : id (M10 20 5 = M 20 5) := (congrFun (fM100 20 (by first | decide | omega | (dsimp only; omega))) 5)
          have q19_2_M10 : id (M10 19 2 = M 19 2) := (congrFun (fM100 19 (by first | decide | omega | (dsimp only; omega))) 2)
          have q19_4_M10 : id (M10 19 4 = M 19 4) := (congrFun (fM100 19 (by first | decide | omega | (dsimp only; omega))) 4)
          have q19_6_M10 : id (M10 19 6 = M 19 6) := (congrFun (fM100 19 (by first | decide | omega | (dsimp only; omega))) 6)
          have q29_0_M10 : id (M10 29 0 = M 29 0) := (congrFun (fM100 29 (by first | decide | omega | (dsimp only; omega))) 0)
          have q29_1_M10 : id (M10 29 1 = M 29 1) := (congrFun (fM100 29 (by first | decide | omega | (dsimp only; omega))) 1)
          have q31_1_M10 : id (M10 31 1 = M 31 1) := (congrFun (fM100 31 (by first | decide | omega | (dsimp only; omega))) 1)
          have q0_11_M10 : id (M10 0 11 = M 0 11) := (congrFun (fM100 0 (by first | decide | omega | (dsimp only; omega))) 11)
          have q0_12_M10 : id (M10 0 12 = M 0 12) := (congrFun (fM100 0 (by first | decide | omega | (dsimp only; omega))) 12)
          have q0_13_M10 : id (M10 0 13 = M 0 13) := (congrFun (fM100 0 (by first | decide | omega | (dsimp only; omega))) 13)
          have q0_10_M10 : id (M10 0 10 = M 0 10) := (congrFun (fM100 0 (by first | decide | omega | (dsimp only; omega))) 10)
          obtain ⟨pzM10, spM10, a1, b1, P1, F1, Z1, tvM10, cp1, cp2, cp3⟩ := pM10
          refine g_iconst (pc' := 37) dX9_goBack_36 rfl ?_
          refine g_ireturn dX9_goBack_37 ?_
          exact ⟨iM10, fM10, q11_5_M10, q10_2_M10, q10_4_M10, q10_6_M10, q20_5_M10, q19_2_M10, q19_4_M10, q19_6_M10, q29_0_M10, q29_1_M10, q31_1_M10, q0_11_M10, q0_12_M10, q0_13_M10, q0_10_M10, by omega, fun q => absurd q.1 (by decide), fun _ => ⟨⟨a1, b1, P1, L, F1, Z1, tvM10, pu.cp cp1 cp2 cp3⟩, spM10⟩, fun q => absurd (by omega) q⟩
        · refine g_bipush (pc' := 22) (v := (-2)) dX9_goBack_20 rfl (by decide) ?_
          refine g_ireturn dX9_goBack_22 ?_
          exact ⟨hi, Fr.rf, rfl, rfl, rfl, rfl, rfl, rfl, rfl, rfl, rfl, rfl, rfl, rfl, rfl, rfl, rfl, by omega, fun q => absurd q (by omega), fun q => absurd q (by omega), fun _ _ _ _ => rfl⟩
    · refine g_iconst (pc' := 10) dX9_goBack_9 rfl ?_
      refine g_ireturn dX9_goBack_10 ?_
      exact ⟨hi, Fr.rf, rfl, rfl, rfl, rfl, rfl, rfl, rfl, rfl, rfl, rfl, rfl, rfl, rfl, rfl, rfl, by omega, fun q => absurd q (by omega), fun q => absurd q (by omega), fun _ _ _ _ => rfl⟩
set_option maxHeartbeats 4000000 in
set_option maxRecDepth 100000 in
theorem c_X9_back_x (X : Cx) (M : Mm) (hi : IC M) (a : Int) (ha : inI a) (n0 : Int) (m0 z0 : Nat → Int) (h0 : M 29 0 ≠ 0 → PB M 11 n0 m0 z0) (n1 : Int) (m1 z1 : Nat → Int) (h1 : M 29 1 ≠ 0 → PB M 20 n1 m1 z1) : Con X 5 yX9_back cX9_back 2 (some .int) [vr X 0, vi a] M (Qi (fun r M1 => IC M1 ∧ Fr (fun c => 1 ≤ c ∧ c ≤ 9 ∨ c = 0 ∨ c = 96) M M1 ∧ M1 11 5 = M 11 5 ∧ M1 10 2 = M 10 2 ∧ M1 10 4 = M 10 4 ∧ M1 10 6 = M 10 6 ∧ M1 20 5 = M 20 5 ∧ M1 19 2 = M 19 2 ∧ M1 19 4 = M 19 4 ∧ M1 19 6 = M 19 6 ∧ M1 29 0 = M 29 0 ∧ M1 29 1 = M 29 1 ∧ M1 31 1 = M 31 1 ∧ M1 0 11 = M 0 11 ∧ M1 0 12 = M 0 12 ∧ M1 0 13 = M 0 13 ∧ ((((a < 0 ∨ 1 < a) → r = -1 ∧ M1 2 5 = M 2 5 ∧ M1 1 2 = M 1 2 ∧ M1 1 4 = M 1 4 ∧ M1 1 6 = M 1 6) ∧ (a = 0 → M 29 0 = 0 → r = -2 ∧ M1 2 5 = M 2 5 ∧ M1 1 2 = M 1 2 ∧ M1 1 4 = M 1 4 ∧ M1 1 6 = M 1 6) ∧ (a = 1 → M 29 1 = 0 → r = -2 ∧ M1 2 5 = M 2 5 ∧ M1 1 2 = M 1 2 ∧ M1 1 4 = M 1 4 ∧ M1 1 6 = M 1 6) ∧ (a = 0 → M 29 0 ≠ 0 → r = 0 ∧ M1 2 5 = M 11 5 ∧ M1 1 2 = M 10 2 ∧ M1 1 4 = M 10 4 ∧ M1 1 6 = M 10 6) ∧ (a = 1 → M 29 1 ≠ 0 → r = 0 ∧ M1 2 5 = M 20 5 ∧ M1 1 2 = M 19 2 ∧ M1 1 4 = M 19 4 ∧ M1 1 6 = M 19 6)) ∧ (((a = 0 ∧ M 29 0 ≠ 0) → PB M1 2 n0 m0 z0 ∧ ∀ k : Nat, k < 3 → M1 7 k = M 16 k) ∧ ((a = 1 ∧ M 29 1 ≠ 0) → PB M1 2 n1 m1 z1 ∧ ∀ k : Nat, k < 3 → M1 7 k = M 25 k) ∧ (¬ ((a = 0 ∧ M 29 0 ≠ 0) ∨ (a = 1 ∧ M 29 1 ≠ 0)) → ∀ c : Nat, 1 ≤ c → c ≤ 9 → M1 c = M c)) ∧ M1 0 10 = ngv r ∧ M1 96 = ansF (M 96) r))) := by
  refine Con.ofG rfl (Nat.le_of_ble_eq_true rfl) ?_
  show G X 5 RX9 cX9_back 2 (some .int) (Qi (fun r M1 => IC M1 ∧ Fr (fun c => 1 ≤ c ∧ c ≤ 9 ∨ c = 0 ∨ c = 96) M M1 ∧ M1 11 5 = M 11 5 ∧ M1 10 2 = M 10 2 ∧ M1 10 4 = M 10 4 ∧ M1 10 6 = M 10 6 ∧ M1 20 5 = M 20 5 ∧ M1 19 2 = M 19 2 ∧ M1 19 4 = M 19 4 ∧ M1 19 6 = M 19 6 ∧ M1 29 0 = M 29 0 ∧ M1 29 1 = M 29 1 ∧ M1 31 1 = M 31 1 ∧ M1 0 11 = M 0 11 ∧ M1 0 12 = M 0 12 ∧ M1 0 13 = M 0 13 ∧ ((((a < 0 ∨ 1 < a) → r = -1 ∧ M1 2 5 = M 2 5 ∧ M1 1 2 = M 1 2 ∧ M1 1 4 = M 1 4 ∧ M1 1 6 = M 1 6) ∧ (a = 0 → M 29 0 = 0 → r = -2 ∧ M1 2 5 = M 2 5 ∧ M1 1 2 = M 1 2 ∧ M1 1 4 = M 1 4 ∧ M1 1 6 = M 1 6) ∧ (a = 1 → M 29 1 = 0 → r = -2 ∧ M1 2 5 = M 2 5 ∧ M1 1 2 = M 1 2 ∧ M1 1 4 = M 1 4 ∧ M1 1 6 = M 1 6) ∧ (a = 0 → M 29 0 ≠ 0 → r = 0 ∧ M1 2 5 = M 11 5 ∧ M1 1 2 = M 10 2 ∧ M1 1 4 = M 10 4 ∧ M1 1 6 = M 10 6) ∧ (a = 1 → M 29 1 ≠ 0 → r = 0 ∧ M1 2 5 = M 20 5 ∧ M1 1 2 = M 19 2 ∧ M1 1 4 = M 19 4 ∧ M1 1 6 = M 19 6)) ∧ (((a = 0 ∧ M 29 0 ≠ 0) → PB M1 2 n0 m0 z0 ∧ ∀ k : Nat, k < 3 → M1 7 k = M 16 k) ∧ ((a = 1 ∧ M 29 1 ≠ 0) → PB M1 2 n1 m1 z1 ∧ ∀ k : Nat, k < 3 → M1 7 k = M 25 k) ∧ (¬ ((a = 0 ∧ M 29 0 ≠ 0) ∨ (a = 1 ∧ M 29 1 ≠ 0)) → ∀ c : Nat, 1 ≤ c → c ≤ 9 → M1 c = M c)) ∧ M1 0 10 = ngv r ∧ M1 96 = ansF (M 96) r))) 0 [(0, vr X 0), (1, vi a)] [] M
  have hi5 := (hi.1 2 isT_2).2.1
  have hi4 := (hi.1 2 isT_2).1
  have h12 := hi.2.1.1.1
  have h14 := hi.2.1.1.2.1
  have h16 := hi.2.1.1.2.2
  refine g_aload_n (pc' := 1) 0 dX9_back_0 rfl rfl ?_
  refine g_aload_n (pc' := 2) 0 dX9_back_1 rfl rfl ?_
  refine g_iload_n (pc' := 3) 1 dX9_back_2 rfl rfl ?_
  refine g_callVi (pc' := 6) (As := [vi a]) (b := 0) (S := [vr X 0]) dX9_back_3 rfl m_X9_292 w_X9_goBack (c_X9_goBack_x X M hi a ha n0 m0 z0 h0 n1 m1 z1 h1) rfl ⟨_, _, _, rfl, rfl, rfl⟩ (by decide) (by decide) rfl (Nat.le_of_ble_eq_true rfl) (fun z2 M3 q1 => ?_)
  obtain ⟨iM3, fM30, eM3_11_5, eM3_10_2, eM3_10_4, eM3_10_6, eM3_20_5, eM3_19_2, eM3_19_4, eM3_19_6, eM3_29_0, eM3_29_1, eM3_31_1, eM3_0_11, eM3_0_12, eM3_0_13, eM3_0_10, pM3⟩ := q1
  have fM3 : Fr (fun c => 1 ≤ c ∧ c ≤ 9 ∨ c = 0 ∨ c = 96) M M3 := Fr.tr Fr.rf fM30 fi_74
  have q11_5_M3 : id (M3 11 5 = M 11 5) := eM3_11_5
  have q10_2_M3 : id (M3 10 2 = M 10 2) := eM3_10_2
  have q10_4_M3 : id (M3 10 4 = M 10 4) := eM3_10_4
  have q10_6_M3 : id (M3 10 6 = M 10 6) := eM3_10_6
  have q20_5_M3 : id (M3 20 5 = M 20 5) := eM3_20_5
  have q19_2_M3 : id (M3 19 2 = M 19 2) := eM3_19_2
  have q19_4_M3 : id (M3 19 4 = M 19 4) := eM3_19_4
  have q19_6_M3 : id (M3 19 6 = M 19 6) := eM3_19_6
  have q29_0_M3 : id (M3 29 0 = M 29 0) := eM3_29_0
  have q29_1_M3 : id (M3 29 1 = M 29 1) := eM3_29_1
  have q31_1_M3 : id (M3 31 1 = M 31 1) := eM3_31_1
  have q0_11_M3 : id (M3 0 11 = M 0 11) := eM3_0_11
  have q0_12_M3 : id (M3 0 12 = M 0 12) := eM3_0_12
  have q0_13_M3 : id (M3 0 13 = M 0 13) := eM3_0_13
  have q0_10_M3 : (M3 0 10 = M 0 10) := eM3_0_10
  have wM3_0_10 : M3 0 10 = M 0 10 := eM3_0_10
  have wM3_0_10 : M3 0 10 = M 0 10 := eM3_0_10
  clear eM3_11_5 eM3_10_2 eM3_10_4 eM3_10_6 eM3_20_5 eM3_19_2 eM3_19_4 eM3_19_6 eM3_29_0 eM3_29_1 eM3_31_1 eM3_0_11 eM3_0_12 eM3_0_13
  have xM3 : ((a = 0 ∧ M 29 0 ≠ 0) → PB M3 2 n0 m0 z0 ∧ ∀ k : Nat, k < 3 → M3 7 k = M 16 k) ∧ ((a = 1 ∧ M 29 1 ≠ 0) → PB M3 2 n1 m1 z1 ∧ ∀ k : Nat, k < 3 → M3 7 k = M 25 k) ∧ (¬ ((a = 0 ∧ M 29 0 ≠ 0) ∨ (a = 1 ∧ M 29 1 ≠ 0)) → ∀ c : Nat, 1 ≤ c → c ≤ 9 → M3 c = M c) := pM3.2
  replace pM3 := pM3.1
  have e96M3 := fM30 96 (by first | decide | omega | (dsimp only; omega))
  refine g_callVi (pc' := 9) (As := [vi z2]) (b := 0) (S := []) dX9_back_6 rfl m_X9_79 w_X9_answered (c_X9_answered_x X M3 iM3 z2 ⟨by omega, by omega⟩) rfl ⟨_, _, _, rfl, rfl, rfl⟩ (by decide) (by decide) rfl (Nat.le_of_ble_eq_true rfl) (fun z5 M6 q4 => ?_)
  obtain ⟨iM6, fM60, eM6_2_5, eM6_1_2, eM6_1_4, eM6_1_6, eM6_11_5, eM6_10_2, eM6_10_4, eM6_10_6, eM6_20_5, eM6_19_2, eM6_19_4, eM6_19_6, eM6_29_0, eM6_29_1, eM6_31_1, eM6_0_11, eM6_0_12, eM6_0_13, pM6⟩ := q4
  have fM6 : Fr (fun c => 1 ≤ c ∧ c ≤ 9 ∨ c = 0 ∨ c = 96) M M6 := Fr.tr fM3 fM60 fi_75
  have q11_5_M6 : id (M6 11 5 = M 11 5) := eM6_11_5.trans q11_5_M3
  have q10_2_M6 : id (M6 10 2 = M 10 2) := eM6_10_2.trans q10_2_M3
  have q10_4_M6 : id (M6 10 4 = M 10 4) := eM6_10_4.trans q10_4_M3
  have q10_6_M6 : id (M6 10 6 = M 10 6) := eM6_10_6.trans q10_6_M3
  have q20_5_M6 : id (M6 20 5 = M 20 5) := eM6_20_5.trans q20_5_M3
  have q19_2_M6 : id (M6 19 2 = M 19 2) := eM6_19_2.trans q19_2_M3
  have q19_4_M6 : id (M6 19 4 = M 19 4) := eM6_19_4.trans q19_4_M3
  have q19_6_M6 : id (M6 19 6 = M 19 6) := eM6_19_6.trans q19_6_M3
  have q29_0_M6 : id (M6 29 0 = M 29 0) := eM6_29_0.trans q29_0_M3
  have q29_1_M6 : id (M6 29 1 = M 29 1) := eM6_29_1.trans q29_1_M3
  have q31_1_M6 : id (M6 31 1 = M 31 1) := eM6_31_1.trans q31_1_M3
  have q0_11_M6 : id (M6 0 11 = M 0 11) := eM6_0_11.trans q0_11_M3
  have q0_12_M6 : id (M6 0 12 = M 0 12) := eM6_0_12.trans q0_12_M3
  have q0_13_M6 : id (M6 0 13 = M 0 13) := eM6_0_13.trans q0_13_M3
  have wM6_2_5 : M6 2 5 = M3 2 5 := eM6_2_5
  have wM6_1_2 : M6 1 2 = M3 1 2 := eM6_1_2
  have wM6_1_4 : M6 1 4 = M3 1 4 := eM6_1_4
  have wM6_1_6 : M6 1 6 = M3 1 6 := eM6_1_6
  clear eM6_11_5 eM6_10_2 eM6_10_4 eM6_10_6 eM6_20_5 eM6_19_2 eM6_19_4 eM6_19_6 eM6_29_0 eM6_29_1 eM6_31_1 eM6_0_11 eM6_0_12 eM6_0_13
  obtain ⟨anM6, asM6, a96M6⟩ := pM6
  rw [e96M3] at a96M6
  subst anM6
  refine g_ireturn dX9_back_9 ?_
  exact ⟨iM6, fM6, q11_5_M6, q10_2_M6, q10_4_M6, q10_6_M6, q20_5_M6, q19_2_M6, q19_4_M6, q19_6_M6, q29_0_M6, q29_1_M6, q31_1_M6, q0_11_M6, q0_12_M6, q0_13_M6, by omega, ⟨fun q => ⟨PB.far (xM3.1 q).1 fM60 (fun c z => by unfold inT; first | omega | (dsimp only at z; omega)), fun k hk => by rw [fM60 7 (by first | decide | omega | (dsimp only; omega))]; exact (xM3.1 q).2 k hk⟩, fun q => ⟨PB.far (xM3.2.1 q).1 fM60 (fun c z => by unfold inT; first | omega | (dsimp only at z; omega)), fun k hk => by rw [fM60 7 (by first | decide | omega | (dsimp only; omega))]; exact (xM3.2.1 q).2 k hk⟩, fun q c h1 h2 => by rw [fM60 c (by first | decide | omega | (dsimp only; omega))]; exact xM3.2.2 q c h1 h2⟩, asM6, a96M6⟩
set_option maxHeartbeats 4000000 in
set_option maxRecDepth 100000 in
theorem l_X10_image_x_54 (X : Cx) (M : Mm) (hi : IM M) (a : Int) (ha : inI a) : ∀ (kk : Nat) (i : Int) (M1 : Mm) (fr1 : Fr (fun c => c = 97 ∨ c = 98 ∨ c = 100 ∨ c = 102 ∨ c = 103) M M1) (q99_0 : (M1 99 0 = M 99 0)) (q99_1 : (M1 99 1 = M 99 1)) (q99_2 : (M1 99 2 = M 99 2)) (q99_3 : (M1 99 3 = M 99 3)) (q97_12 : (M1 97 12 = M 97 12)) (q97_17 : (M1 97 17 = M 97 17)) (q97_33 : (M1 97 33 = M 97 33)) (q97_10 : (M1 97 10 = M 97 10)) (q97_44 : (M1 97 44 = M 97 44)) (q97_1 : (M1 97 1 = M 97 1)) (a01 : 0 ≤ a ∧ a ≤ 1) (k0 : 0 ≤ i) (e99 : M1 99 = M 99) (e101 : M1 101 = M 101) (e44 : M1 97 44 = M 97 44) (e103 : M1 103 = M 103) (k1 : i ≤ 25) (cR : ∀ j : Nat, j < 49 → M1 100 (49 * a.toNat + j) = M 99 j) (us : ∀ q : Nat, (q < 49 * a.toNat ∨ 49 * a.toNat + 49 ≤ q) → M1 100 q = M 100 q) (cp : ∀ j : Nat, (j : Int) < i → M1 102 (25 * a.toNat + j) = M 101 j) (us2 : ∀ q : Nat, (q < 25 * a.toNat ∨ 25 * a.toNat + 25 ≤ q) → M1 102 q = M 102 q) (k98 : M1 98 = M 98), (25 - i).toNat = kk → G X 12 RX10 cX10_image 3 (some .int) (Qi (fun r M1 => IM M1 ∧ Fr (fun c => c = 97 ∨ c = 98 ∨ c = 100 ∨ c = 102 ∨ c = 103) M M1 ∧ M1 99 0 = M 99 0 ∧ M1 99 1 = M 99 1 ∧ M1 99 2 = M 99 2 ∧ M1 99 3 = M 99 3 ∧ M1 97 12 = M 97 12 ∧ M1 97 17 = M 97 17 ∧ M1 97 33 = M 97 33 ∧ M1 97 10 = M 97 10 ∧ M1 97 44 = M 97 44 ∧ ((((a < 0 ∨ 1 < a) → r = -1 ∧ M1 100 0 = M 100 0 ∧ M1 100 1 = M 100 1 ∧ M1 100 2 = M 100 2 ∧ M1 100 3 = M 100 3 ∧ M1 103 0 = M 103 0 ∧ M1 100 49 = M 100 49 ∧ M1 100 50 = M 100 50 ∧ M1 100 51 = M 100 51 ∧ M1 100 52 = M 100 52 ∧ M1 103 1 = M 103 1) ∧ (a = 0 → r = 0 ∧ M1 100 0 = M 99 0 ∧ M1 100 1 = M 99 1 ∧ M1 100 2 = M 99 2 ∧ M1 100 3 = M 99 3 ∧ M1 103 0 = 1 ∧ M1 100 49 = M 100 49 ∧ M1 100 50 = M 100 50 ∧ M1 100 51 = M 100 51 ∧ M1 100 52 = M 100 52 ∧ M1 103 1 = M 103 1) ∧ (a = 1 → r = 0 ∧ M1 100 49 = M 99 0 ∧ M1 100 50 = M 99 1 ∧ M1 100 51 = M 99 2 ∧ M1 100 52 = M 99 3 ∧ M1 103 1 = 1 ∧ M1 100 0 = M 100 0 ∧ M1 100 1 = M 100 1 ∧ M1 100 2 = M 100 2 ∧ M1 100 3 = M 100 3 ∧ M1 103 0 = M 103 0)) ∧ (((0 ≤ a ∧ a ≤ 1) → (∀ j : Nat, j < 49 → M1 100 (49 * a.toNat + j) = M 99 j) ∧ (∀ q : Nat, (q < 49 * a.toNat ∨ 49 * a.toNat + 49 ≤ q) → M1 100 q = M 100 q) ∧ (∀ j : Nat, j < 25 → M1 102 (25 * a.toNat + j) = M 101 j) ∧ (∀ q : Nat, (q < 25 * a.toNat ∨ 25 * a.toNat + 25 ≤ q) → M1 102 q = M 102 q)) ∧ (¬ (0 ≤ a ∧ a ≤ 1) → M1 100 = M 100 ∧ M1 102 = M 102)) ∧ M1 97 1 = ngv r ∧ M1 98 = telF (M 98) r))) 54 [(2, vi i), (0, vr X 97), (1, vi a)] [] M1 := by
  intro kk
  induction kk using Nat.strongRecOn with
  | ind kk ih =>
    intro i M1 fr1 q99_0 q99_1 q99_2 q99_3 q97_12 q97_17 q97_33 q97_10 q97_44 q97_1 a01 k0 e99 e101 e44 e103 k1 cR us cp us2 k98 hmes
    refine g_iload_n (pc' := 55) 0 dX10_image_54 rfl rfl ?_
    refine g_bipush (pc' := 57) (v := 25) dX10_image_55 rfl (by decide) ?_
    refine g_ic_ge (pc' := 60) (tgt := 83) ⟨by omega, by omega⟩ (by decide) dX10_image_57 rfl rfl (fun c1 => ?_) (fun c1 => ?_)
    · refine g_aload_n (pc' := 84) 1 dX10_image_83 rfl rfl ?_
      refine g_getR (pc' := 87) dX10_image_84 rfl f_X10_26 rfl rfl ?_
      refine g_iload_n (pc' := 88) 2 dX10_image_87 rfl rfl ?_
      refine g_iconst (pc' := 89) dX10_image_88 rfl ?_
      refine g_zast (pc' := 90) dX10_image_89 rfl rfl (by omega) (by omega) (by omega) (fun M2 hM2 => ?_)
      have fM2 : Fr (fun c => c = 97 ∨ c = 98 ∨ c = 100 ∨ c = 102 ∨ c = 103) M M2 := Fr.wr fr1 hM2 (by first | decide | omega | (dsimp only; omega))
      have q99_0_M2 : (M2 99 0 = M 99 0) := (show M2 99 0 = M1 99 0 by rw [hM2]; exact mu_ne _ _ (by first | decide | omega)).trans q99_0
      have q99_1_M2 : (M2 99 1 = M 99 1) := (show M2 99 1 = M1 99 1 by rw [hM2]; exact mu_ne _ _ (by first | decide | omega)).trans q99_1
      have q99_2_M2 : (M2 99 2 = M 99 2) := (show M2 99 2 = M1 99 2 by rw [hM2]; exact mu_ne _ _ (by first | decide | omega)).trans q99_2
      have q99_3_M2 : (M2 99 3 = M 99 3) := (show M2 99 3 = M1 99 3 by rw [hM2]; exact mu_ne _ _ (by first | decide | omega)).trans q99_3
      have q97_12_M2 : (M2 97 12 = M 97 12) := (show M2 97 12 = M1 97 12 by rw [hM2]; exact mu_ne _ _ (by first | decide | omega)).trans q97_12
      have q97_17_M2 : (M2 97 17 = M 97 17) := (show M2 97 17 = M1 97 17 by rw [hM2]; exact mu_ne _ _ (by first | decide | omega)).trans q97_17
      have q97_33_M2 : (M2 97 33 = M 97 33) := (show M2 97 33 = M1 97 33 by rw [hM2]; exact mu_ne _ _ (by first | decide | omega)).trans q97_33
      have q97_10_M2 : (M2 97 10 = M 97 10) := (show M2 97 10 = M1 97 10 by rw [hM2]; exact mu_ne _ _ (by first | decide | omega)).trans q97_10
      have q97_44_M2 : (M2 97 44 = M 97 44) := (show M2 97 44 = M1 97 44 by rw [hM2]; exact mu_ne _ _ (by first | decide | omega)).trans q97_44
      have q97_1_M2 : (M2 97 1 = M 97 1) := (show M2 97 1 = M1 97 1 by rw [hM2]; exact mu_ne _ _ (by first | decide | omega)).trans q97_1
      have wM2_100_0 : M2 100 0 = M1 100 0 := by rw [hM2]; exact mu_ne _ _ (by first | decide | omega)
      have wM2_100_1 : M2 100 1 = M1 100 1 := by rw [hM2]; exact mu_ne _ _ (by first | decide | omega)
      have wM2_100_2 : M2 100 2 = M1 100 2 := by rw [hM2]; exact mu_ne _ _ (by first | decide | omega)
      have wM2_100_3 : M2 100 3 = M1 100 3 := by rw [hM2]; exact mu_ne _ _ (by first | decide | omega)
      have wM2_100_49 : M2 100 49 = M1 100 49 := by rw [hM2]; exact mu_ne _ _ (by first | decide | omega)
      have wM2_100_50 : M2 100 50 = M1 100 50 := by rw [hM2]; exact mu_ne _ _ (by first | decide | omega)
      have wM2_100_51 : M2 100 51 = M1 100 51 := by rw [hM2]; exact mu_ne _ _ (by first | decide | omega)
      have wM2_100_52 : M2 100 52 = M1 100 52 := by rw [hM2]; exact mu_ne _ _ (by first | decide | omega)
      have wM2_97_1 : M2 97 1 = M1 97 1 := by rw [hM2]; exact mu_ne _ _ (by first | decide | omega)
      have wM2_97_1 : M2 97 1 = M1 97 1 := by rw [hM2]; exact mu_ne _ _ (by first | decide | omega)
      have e99M2 : M2 99 = M 99 := by rw [hM2, mu_cell _ _ (by decide)]; exact e99
      have e101M2 : M2 101 = M 101 := by rw [hM2, mu_cell _ _ (by decide)]; exact e101
      have e44M2 : M2 97 44 = M 97 44 := by rw [hM2, mu_ne _ _ (by first | decide | omega)]; exact e44
      have cRM2 : ∀ j : Nat, j < 49 → M2 100 (49 * a.toNat + j) = M 99 j := fun j hj => by rw [hM2, mu_cell _ _ (by decide)]; exact cR j hj
      have usM2 : ∀ q : Nat, (q < 49 * a.toNat ∨ 49 * a.toNat + 49 ≤ q) → M2 100 q = M 100 q := fun q hq => by rw [hM2, mu_cell _ _ (by decide)]; exact us q hq
      have cPM2 : ∀ j : Nat, j < 25 → M2 102 (25 * a.toNat + j) = M 101 j := fun j hj => by rw [hM2, mu_cell _ _ (by decide)]; exact cp j (by omega)
      have us2M2 : ∀ q : Nat, (q < 25 * a.toNat ∨ 25 * a.toNat + 25 ≤ q) → M2 102 q = M 102 q := fun q hq => by rw [hM2, mu_cell _ _ (by decide)]; exact us2 q hq
      have e103n : ∀ q : Nat, q ≠ a.toNat → M2 103 q = M 103 q := fun q hq => by rw [hM2, mu_ne _ _ (fun _ => hq), e103]
      have e103a : M2 103 a.toNat = 1 := by rw [hM2]; exact mu_at _ _ _ _
      have iM2 : IM M2 := IM.image (k := a.toNat) hi (by omega) e99M2 e101M2 q97_12_M2 e44M2 cRM2 usM2 cPM2 us2M2 e103n
      have g0 : a = 0 → M2 100 0 = M 99 0 ∧ M2 100 1 = M 99 1 ∧ M2 100 2 = M 99 2 ∧ M2 100 3 = M 99 3 ∧ M2 103 0 = 1 ∧ M2 100 49 = M 100 49 ∧ M2 100 50 = M 100 50 ∧ M2 100 51 = M 100 51 ∧ M2 100 52 = M 100 52 ∧ M2 103 1 = M 103 1 := fun z => by
        subst z
        exact ⟨cRM2 0 (by omega), cRM2 1 (by omega), cRM2 2 (by omega), cRM2 3 (by omega), e103a, usM2 49 (by omega), usM2 50 (by omega), usM2 51 (by omega), usM2 52 (by omega), e103n 1 (by decide)⟩
      have g1 : a = 1 → M2 100 49 = M 99 0 ∧ M2 100 50 = M 99 1 ∧ M2 100 51 = M 99 2 ∧ M2 100 52 = M 99 3 ∧ M2 103 1 = 1 ∧ M2 100 0 = M 100 0 ∧ M2 100 1 = M 100 1 ∧ M2 100 2 = M 100 2 ∧ M2 100 3 = M 100 3 ∧ M2 103 0 = M 103 0 := fun z => by
        subst z
        exact ⟨cRM2 0 (by omega), cRM2 1 (by omega), cRM2 2 (by omega), cRM2 3 (by omega), e103a, usM2 0 (by omega), usM2 1 (by omega), usM2 2 (by omega), usM2 3 (by omega), e103n 0 (by decide)⟩
      have k98M2 : M2 98 = M 98 := (show M2 98 = M1 98 by rw [hM2]; exact mu_cell _ _ (by decide)).trans k98
      refine g_aload_n (pc' := 91) 1 dX10_image_90 rfl rfl ?_
      refine g_iconst (pc' := 92) dX10_image_91 rfl ?_
      refine g_callVi (pc' := 95) (As := [vi 0]) (b := 97) (S := []) dX10_image_92 rfl m_X10_87 w_X10_tell (c_X10_tell_x X M2 iM2 0 (by decide) (by omega)) rfl ⟨_, _, _, rfl, rfl, rfl⟩ (by decide) (by decide) rfl (Nat.le_of_ble_eq_true rfl) (fun z4 M5 q3 => ?_)
      obtain ⟨iM5, fM50, eM5_99_0, eM5_99_1, eM5_99_2, eM5_99_3, eM5_100_0, eM5_100_1, eM5_100_2, eM5_100_3, eM5_100_49, eM5_100_50, eM5_100_51, eM5_100_52, eM5_103_0, eM5_103_1, eM5_97_12, eM5_97_17, eM5_97_33, eM5_97_10, eM5_97_44, pM5⟩ := q3
      have fM5 : Fr (fun c => c = 97 ∨ c = 98 ∨ c = 100 ∨ c = 102 ∨ c = 103) M M5 := Fr.tr fM2 fM50 fi_38
      have q99_0_M5 : (M5 99 0 = M 99 0) := eM5_99_0.trans q99_0_M2
      have q99_1_M5 : (M5 99 1 = M 99 1) := eM5_99_1.trans q99_1_M2
      have q99_2_M5 : (M5 99 2 = M 99 2) := eM5_99_2.trans q99_2_M2
      have q99_3_M5 : (M5 99 3 = M 99 3) := eM5_99_3.trans q99_3_M2
      have q97_12_M5 : (M5 97 12 = M 97 12) := eM5_97_12.trans q97_12_M2
      have q97_17_M5 : (M5 97 17 = M 97 17) := eM5_97_17.trans q97_17_M2
      have q97_33_M5 : (M5 97 33 = M 97 33) := eM5_97_33.trans q97_33_M2
      have q97_10_M5 : (M5 97 10 = M 97 10) := eM5_97_10.trans q97_10_M2
      have q97_44_M5 : (M5 97 44 = M 97 44) := eM5_97_44.trans q97_44_M2
      have wM5_100_0 : M5 100 0 = M2 100 0 := eM5_100_0
      have wM5_100_1 : M5 100 1 = M2 100 1 := eM5_100_1
      have wM5_100_2 : M5 100 2 = M2 100 2 := eM5_100_2
      have wM5_100_3 : M5 100 3 = M2 100 3 := eM5_100_3
      have wM5_103_0 : M5 103 0 = M2 103 0 := eM5_103_0
      have wM5_100_49 : M5 100 49 = M2 100 49 := eM5_100_49
      have wM5_100_50 : M5 100 50 = M2 100 50 := eM5_100_50
      have wM5_100_51 : M5 100 51 = M2 100 51 := eM5_100_51
      have wM5_100_52 : M5 100 52 = M2 100 52 := eM5_100_52
      have wM5_103_1 : M5 103 1 = M2 103 1 := eM5_103_1
      obtain ⟨anM5, asM5, a98M5⟩ := pM5
      rw [k98M2] at a98M5
      subst anM5
      refine g_ireturn dX10_image_95 ?_
      exact ⟨iM5, fM5, q99_0_M5, q99_1_M5, q99_2_M5, q99_3_M5, q97_12_M5, q97_17_M5, q97_33_M5, q97_10_M5, q97_44_M5, by omega, ⟨fun _ => ⟨fun j hj => by rw [fM50 100 (by decide)]; exact cRM2 j hj, fun q hq => by rw [fM50 100 (by decide)]; exact usM2 q hq, fun j hj => by rw [fM50 102 (by decide)]; exact cPM2 j hj, fun q hq => by rw [fM50 102 (by decide)]; exact us2M2 q hq⟩, fun z => absurd (by omega) z⟩, asM5, a98M5⟩
    · refine g_aload_n (pc' := 61) 1 dX10_image_60 rfl rfl ?_
      refine g_getR (pc' := 64) dX10_image_61 rfl f_X10_23 rfl rfl ?_
      refine g_bipush (pc' := 66) (v := 25) dX10_image_64 rfl (by decide) ?_
      refine g_iload_n (pc' := 67) 2 dX10_image_66 rfl rfl ?_
      refine g_imul (pc' := 68) dX10_image_67 rfl ?_
      refine g_iload_n (pc' := 69) 0 dX10_image_68 rfl rfl ?_
      refine g_iadd (pc' := 70) dX10_image_69 rfl ?_
      refine g_aload_n (pc' := 71) 1 dX10_image_70 rfl rfl ?_
      refine g_getR (pc' := 74) dX10_image_71 rfl f_X10_19 rfl rfl ?_
      refine g_iload_n (pc' := 75) 0 dX10_image_74 rfl rfl ?_
      refine g_lald (pc' := 76) dX10_image_75 rfl rfl (by omega) (by omega) (fun v6 ev6 rv6 => ?_)
      have gv6 : v6 = M 101 i.toNat := by rw [ev6, e101]
      refine g_last (pc' := 77) dX10_image_76 rfl rfl (by omega) (by omega) rv6 (fun M7 hM7 => ?_)
      have fM7 : Fr (fun c => c = 97 ∨ c = 98 ∨ c = 100 ∨ c = 102 ∨ c = 103) M M7 := Fr.wr fr1 hM7 (by first | decide | omega | (dsimp only; omega))
      have q99_0_M7 : (M7 99 0 = M 99 0) := (show M7 99 0 = M1 99 0 by rw [hM7]; exact mu_ne _ _ (by first | decide | omega)).trans q99_0
      have q99_1_M7 : (M7 99 1 = M 99 1) := (show M7 99 1 = M1 99 1 by rw [hM7]; exact mu_ne _ _ (by first | decide | omega)).trans q99_1
      have q99_2_M7 : (M7 99 2 = M 99 2) := (show M7 99 2 = M1 99 2 by rw [hM7]; exact mu_ne _ _ (by first | decide | omega)).trans q99_2
      have q99_3_M7 : (M7 99 3 = M 99 3) := (show M7 99 3 = M1 99 3 by rw [hM7]; exact mu_ne _ _ (by first | decide | omega)).trans q99_3
      have q97_12_M7 : (M7 97 12 = M 97 12) := (show M7 97 12 = M1 97 12 by rw [hM7]; exact mu_ne _ _ (by first | decide | omega)).trans q97_12
      have q97_17_M7 : (M7 97 17 = M 97 17) := (show M7 97 17 = M1 97 17 by rw [hM7]; exact mu_ne _ _ (by first | decide | omega)).trans q97_17
      have q97_33_M7 : (M7 97 33 = M 97 33) := (show M7 97 33 = M1 97 33 by rw [hM7]; exact mu_ne _ _ (by first | decide | omega)).trans q97_33
      have q97_10_M7 : (M7 97 10 = M 97 10) := (show M7 97 10 = M1 97 10 by rw [hM7]; exact mu_ne _ _ (by first | decide | omega)).trans q97_10
      have q97_44_M7 : (M7 97 44 = M 97 44) := (show M7 97 44 = M1 97 44 by rw [hM7]; exact mu_ne _ _ (by first | decide | omega)).trans q97_44
      have q97_1_M7 : (M7 97 1 = M 97 1) := (show M7 97 1 = M1 97 1 by rw [hM7]; exact mu_ne _ _ (by first | decide | omega)).trans q97_1
      have wM7_100_0 : M7 100 0 = M1 100 0 := by rw [hM7]; exact mu_ne _ _ (by first | decide | omega)
      have wM7_100_1 : M7 100 1 = M1 100 1 := by rw [hM7]; exact mu_ne _ _ (by first | decide | omega)
      have wM7_100_2 : M7 100 2 = M1 100 2 := by rw [hM7]; exact mu_ne _ _ (by first | decide | omega)
      have wM7_100_3 : M7 100 3 = M1 100 3 := by rw [hM7]; exact mu_ne _ _ (by first | decide | omega)
      have wM7_103_0 : M7 103 0 = M1 103 0 := by rw [hM7]; exact mu_ne _ _ (by first | decide | omega)
      have wM7_100_49 : M7 100 49 = M1 100 49 := by rw [hM7]; exact mu_ne _ _ (by first | decide | omega)
      have wM7_100_50 : M7 100 50 = M1 100 50 := by rw [hM7]; exact mu_ne _ _ (by first | decide | omega)
      have wM7_100_51 : M7 100 51 = M1 100 51 := by rw [hM7]; exact mu_ne _ _ (by first | decide | omega)
      have wM7_100_52 : M7 100 52 = M1 100 52 := by rw [hM7]; exact mu_ne _ _ (by first | decide | omega)
      have wM7_103_1 : M7 103 1 = M1 103 1 := by rw [hM7]; exact mu_ne _ _ (by first | decide | omega)
      have wM7_97_1 : M7 97 1 = M1 97 1 := by rw [hM7]; exact mu_ne _ _ (by first | decide | omega)
      have wM7_97_1 : M7 97 1 = M1 97 1 := by rw [hM7]; exact mu_ne _ _ (by first | decide | omega)
      have e99M7 : M7 99 = M 99 := by rw [hM7, mu_cell _ _ (by decide)]; exact e99
      have e101M7 : M7 101 = M 101 := by rw [hM7, mu_cell _ _ (by decide)]; exact e101
      have e103M7 : M7 103 = M 103 := by rw [hM7, mu_cell _ _ (by decide)]; exact e103
      have e44M7 : M7 97 44 = M 97 44 := by rw [hM7, mu_ne _ _ (by first | decide | omega)]; exact e44
      have cRM7 : ∀ j : Nat, j < 49 → M7 100 (49 * a.toNat + j) = M 99 j := fun j hj => by rw [hM7, mu_cell _ _ (by decide)]; exact cR j hj
      have usM7 : ∀ q : Nat, (q < 49 * a.toNat ∨ 49 * a.toNat + 49 ≤ q) → M7 100 q = M 100 q := fun q hq => by rw [hM7, mu_cell _ _ (by decide)]; exact us q hq
      have k98M7 : M7 98 = M 98 := (show M7 98 = M1 98 by rw [hM7]; exact mu_cell _ _ (by decide)).trans k98
      refine g_iinc (pc' := 80) (L' := [(2, vi (i + 1)), (0, vr X 97), (1, vi a)]) 0 dX10_image_77 rfl rfl (by decide) rfl ?_
      refine g_goto (tgt := 54) dX10_image_80 rfl ?_
      refine g_sub [0, 1, 2] rfl ?_
      exact ih _ (by omega) (i + 1) M7 fM7 q99_0_M7 q99_1_M7 q99_2_M7 q99_3_M7 q97_12_M7 q97_17_M7 q97_33_M7 q97_10_M7 q97_44_M7 q97_1_M7 (by omega) (by omega) e99M7 e101M7 e44M7 e103M7 (by omega) cRM7 usM7 (cstep (F := M 101) cp hM7 (by omega) k0 gv6) (ustep us2 hM7 (by omega)) k98M7 rfl
set_option maxHeartbeats 4000000 in
set_option maxRecDepth 100000 in
theorem l_X10_image_x_23 (X : Cx) (M : Mm) (hi : IM M) (a : Int) (ha : inI a) : ∀ (kk : Nat) (i : Int) (M1 : Mm) (fr1 : Fr (fun c => c = 97 ∨ c = 98 ∨ c = 100 ∨ c = 102 ∨ c = 103) M M1) (q99_0 : (M1 99 0 = M 99 0)) (q99_1 : (M1 99 1 = M 99 1)) (q99_2 : (M1 99 2 = M 99 2)) (q99_3 : (M1 99 3 = M 99 3)) (q97_12 : (M1 97 12 = M 97 12)) (q97_17 : (M1 97 17 = M 97 17)) (q97_33 : (M1 97 33 = M 97 33)) (q97_10 : (M1 97 10 = M 97 10)) (q97_44 : (M1 97 44 = M 97 44)) (q97_1 : (M1 97 1 = M 97 1)) (a01 : 0 ≤ a ∧ a ≤ 1) (k0 : 0 ≤ i) (e99 : M1 99 = M 99) (e101 : M1 101 = M 101) (e44 : M1 97 44 = M 97 44) (e103 : M1 103 = M 103) (k1 : i ≤ 49) (e102 : M1 102 = M 102) (cp : ∀ j : Nat, (j : Int) < i → M1 100 (49 * a.toNat + j) = M 99 j) (us : ∀ q : Nat, (q < 49 * a.toNat ∨ 49 * a.toNat + 49 ≤ q) → M1 100 q = M 100 q) (k98 : M1 98 = M 98), (49 - i).toNat = kk → G X 12 RX10 cX10_image 3 (some .int) (Qi (fun r M1 => IM M1 ∧ Fr (fun c => c = 97 ∨ c = 98 ∨ c = 100 ∨ c = 102 ∨ c = 103) M M1 ∧ M1 99 0 = M 99 0 ∧ M1 99 1 = M 99 1 ∧ M1 99 2 = M 99 2 ∧ M1 99 3 = M 99 3 ∧ M1 97 12 = M 97 12 ∧ M1 97 17 = M 97 17 ∧ M1 97 33 = M 97 33 ∧ M1 97 10 = M 97 10 ∧ M1 97 44 = M 97 44 ∧ ((((a < 0 ∨ 1 < a) → r = -1 ∧ M1 100 0 = M 100 0 ∧ M1 100 1 = M 100 1 ∧ M1 100 2 = M 100 2 ∧ M1 100 3 = M 100 3 ∧ M1 103 0 = M 103 0 ∧ M1 100 49 = M 100 49 ∧ M1 100 50 = M 100 50 ∧ M1 100 51 = M 100 51 ∧ M1 100 52 = M 100 52 ∧ M1 103 1 = M 103 1) ∧ (a = 0 → r = 0 ∧ M1 100 0 = M 99 0 ∧ M1 100 1 = M 99 1 ∧ M1 100 2 = M 99 2 ∧ M1 100 3 = M 99 3 ∧ M1 103 0 = 1 ∧ M1 100 49 = M 100 49 ∧ M1 100 50 = M 100 50 ∧ M1 100 51 = M 100 51 ∧ M1 100 52 = M 100 52 ∧ M1 103 1 = M 103 1) ∧ (a = 1 → r = 0 ∧ M1 100 49 = M 99 0 ∧ M1 100 50 = M 99 1 ∧ M1 100 51 = M 99 2 ∧ M1 100 52 = M 99 3 ∧ M1 103 1 = 1 ∧ M1 100 0 = M 100 0 ∧ M1 100 1 = M 100 1 ∧ M1 100 2 = M 100 2 ∧ M1 100 3 = M 100 3 ∧ M1 103 0 = M 103 0)) ∧ (((0 ≤ a ∧ a ≤ 1) → (∀ j : Nat, j < 49 → M1 100 (49 * a.toNat + j) = M 99 j) ∧ (∀ q : Nat, (q < 49 * a.toNat ∨ 49 * a.toNat + 49 ≤ q) → M1 100 q = M 100 q) ∧ (∀ j : Nat, j < 25 → M1 102 (25 * a.toNat + j) = M 101 j) ∧ (∀ q : Nat, (q < 25 * a.toNat ∨ 25 * a.toNat + 25 ≤ q) → M1 102 q = M 102 q)) ∧ (¬ (0 ≤ a ∧ a ≤ 1) → M1 100 = M 100 ∧ M1 102 = M 102)) ∧ M1 97 1 = ngv r ∧ M1 98 = telF (M 98) r))) 23 [(2, vi i), (0, vr X 97), (1, vi a)] [] M1 := by
  intro kk
  induction kk using Nat.strongRecOn with
  | ind kk ih =>
    intro i M1 fr1 q99_0 q99_1 q99_2 q99_3 q97_12 q97_17 q97_33 q97_10 q97_44 q97_1 a01 k0 e99 e101 e44 e103 k1 e102 cp us k98 hmes
    refine g_iload_n (pc' := 24) 0 dX10_image_23 rfl rfl ?_
    refine g_bipush (pc' := 26) (v := 49) dX10_image_24 rfl (by decide) ?_
    refine g_ic_ge (pc' := 29) (tgt := 52) ⟨by omega, by omega⟩ (by decide) dX10_image_26 rfl rfl (fun c1 => ?_) (fun c1 => ?_)
    · refine g_iconst (pc' := 53) dX10_image_52 rfl ?_
      refine g_istore_n (pc' := 54) (i := 2) (L' := [(2, vi 0), (0, vr X 97), (1, vi a)]) dX10_image_53 rfl rfl (by decide) rfl ?_
      refine g_sub [0, 1, 2] rfl ?_
      exact l_X10_image_x_54 X M hi a ha _ 0 M1 fr1 q99_0 q99_1 q99_2 q99_3 q97_12 q97_17 q97_33 q97_10 q97_44 q97_1 (by omega) (by omega) e99 e101 e44 e103 (by omega) (fun j hj => cp j (by omega)) us (fun j hj => by omega) (fun q _ => by rw [e102]) k98 rfl
    · refine g_aload_n (pc' := 30) 1 dX10_image_29 rfl rfl ?_
      refine g_getR (pc' := 33) dX10_image_30 rfl f_X10_16 rfl rfl ?_
      refine g_bipush (pc' := 35) (v := 49) dX10_image_33 rfl (by decide) ?_
      refine g_iload_n (pc' := 36) 2 dX10_image_35 rfl rfl ?_
      refine g_imul (pc' := 37) dX10_image_36 rfl ?_
      refine g_iload_n (pc' := 38) 0 dX10_image_37 rfl rfl ?_
      refine g_iadd (pc' := 39) dX10_image_38 rfl ?_
      refine g_aload_n (pc' := 40) 1 dX10_image_39 rfl rfl ?_
      refine g_getR (pc' := 43) dX10_image_40 rfl f_X10_13 rfl rfl ?_
      refine g_iload_n (pc' := 44) 0 dX10_image_43 rfl rfl ?_
      refine g_iald (pc' := 45) dX10_image_44 rfl rfl (by omega) (by omega) (fun v2 ev2 rv2 => ?_)
      have gv2 : v2 = M 99 i.toNat := by rw [ev2, e99]
      refine g_iast (pc' := 46) dX10_image_45 rfl rfl (by omega) (by omega) rv2 (fun M3 hM3 => ?_)
      have fM3 : Fr (fun c => c = 97 ∨ c = 98 ∨ c = 100 ∨ c = 102 ∨ c = 103) M M3 := Fr.wr fr1 hM3 (by first | decide | omega | (dsimp only; omega))
      have q99_0_M3 : (M3 99 0 = M 99 0) := (show M3 99 0 = M1 99 0 by rw [hM3]; exact mu_ne _ _ (by first | decide | omega)).trans q99_0
      have q99_1_M3 : (M3 99 1 = M 99 1) := (show M3 99 1 = M1 99 1 by rw [hM3]; exact mu_ne _ _ (by first | decide | omega)).trans q99_1
      have q99_2_M3 : (M3 99 2 = M 99 2) := (show M3 99 2 = M1 99 2 by rw [hM3]; exact mu_ne _ _ (by first | decide | omega)).trans q99_2
      have q99_3_M3 : (M3 99 3 = M 99 3) := (show M3 99 3 = M1 99 3 by rw [hM3]; exact mu_ne _ _ (by first | decide | omega)).trans q99_3
      have q97_12_M3 : (M3 97 12 = M 97 12) := (show M3 97 12 = M1 97 12 by rw [hM3]; exact mu_ne _ _ (by first | decide | omega)).trans q97_12
      have q97_17_M3 : (M3 97 17 = M 97 17) := (show M3 97 17 = M1 97 17 by rw [hM3]; exact mu_ne _ _ (by first | decide | omega)).trans q97_17
      have q97_33_M3 : (M3 97 33 = M 97 33) := (show M3 97 33 = M1 97 33 by rw [hM3]; exact mu_ne _ _ (by first | decide | omega)).trans q97_33
      have q97_10_M3 : (M3 97 10 = M 97 10) := (show M3 97 10 = M1 97 10 by rw [hM3]; exact mu_ne _ _ (by first | decide | omega)).trans q97_10
      have q97_44_M3 : (M3 97 44 = M 97 44) := (show M3 97 44 = M1 97 44 by rw [hM3]; exact mu_ne _ _ (by first | decide | omega)).trans q97_44
      have q97_1_M3 : (M3 97 1 = M 97 1) := (show M3 97 1 = M1 97 1 by rw [hM3]; exact mu_ne _ _ (by first | decide | omega)).trans q97_1
      have wM3_103_0 : M3 103 0 = M1 103 0 := by rw [hM3]; exact mu_ne _ _ (by first | decide | omega)
      have wM3_103_1 : M3 103 1 = M1 103 1 := by rw [hM3]; exact mu_ne _ _ (by first | decide | omega)
      have wM3_97_1 : M3 97 1 = M1 97 1 := by rw [hM3]; exact mu_ne _ _ (by first | decide | omega)
      have wM3_97_1 : M3 97 1 = M1 97 1 := by rw [hM3]; exact mu_ne _ _ (by first | decide | omega)
      have e99M3 : M3 99 = M 99 := by rw [hM3, mu_cell _ _ (by decide)]; exact e99
      have e101M3 : M3 101 = M 101 := by rw [hM3, mu_cell _ _ (by decide)]; exact e101
      have e103M3 : M3 103 = M 103 := by rw [hM3, mu_cell _ _ (by decide)]; exact e103
      have e102M3 : M3 102 = M 102 := by rw [hM3, mu_cell _ _ (by decide)]; exact e102
      have e44M3 : M3 97 44 = M 97 44 := by rw [hM3, mu_ne _ _ (by first | decide | omega)]; exact e44
      have k98M3 : M3 98 = M 98 := (show M3 98 = M1 98 by rw [hM3]; exact mu_cell _ _ (by decide)).trans k98
      refine g_iinc (pc' := 49) (L' := [(2, vi (i + 1)), (0, vr X 97), (1, vi a)]) 0 dX10_image_46 rfl rfl (by decide) rfl ?_
      refine g_goto (tgt := 23) dX10_image_49 rfl ?_
      refine g_sub [0, 1, 2] rfl ?_
      exact ih _ (by omega) (i + 1) M3 fM3 q99_0_M3 q99_1_M3 q99_2_M3 q99_3_M3 q97_12_M3 q97_17_M3 q97_33_M3 q97_10_M3 q97_44_M3 q97_1_M3 (by omega) (by omega) e99M3 e101M3 e44M3 e103M3 (by omega) e102M3 (cstep (F := M 99) cp hM3 (by omega) k0 gv2) (ustep us hM3 (by omega)) k98M3 rfl
set_option maxHeartbeats 4000000 in
set_option maxRecDepth 100000 in
theorem c_X10_image_x (X : Cx) (M : Mm) (hi : IM M) (a : Int) (ha : inI a) : Con X 12 yX10_image cX10_image 3 (some .int) [vr X 97, vi a] M (Qi (fun r M1 => IM M1 ∧ Fr (fun c => c = 97 ∨ c = 98 ∨ c = 100 ∨ c = 102 ∨ c = 103) M M1 ∧ M1 99 0 = M 99 0 ∧ M1 99 1 = M 99 1 ∧ M1 99 2 = M 99 2 ∧ M1 99 3 = M 99 3 ∧ M1 97 12 = M 97 12 ∧ M1 97 17 = M 97 17 ∧ M1 97 33 = M 97 33 ∧ M1 97 10 = M 97 10 ∧ M1 97 44 = M 97 44 ∧ ((((a < 0 ∨ 1 < a) → r = -1 ∧ M1 100 0 = M 100 0 ∧ M1 100 1 = M 100 1 ∧ M1 100 2 = M 100 2 ∧ M1 100 3 = M 100 3 ∧ M1 103 0 = M 103 0 ∧ M1 100 49 = M 100 49 ∧ M1 100 50 = M 100 50 ∧ M1 100 51 = M 100 51 ∧ M1 100 52 = M 100 52 ∧ M1 103 1 = M 103 1) ∧ (a = 0 → r = 0 ∧ M1 100 0 = M 99 0 ∧ M1 100 1 = M 99 1 ∧ M1 100 2 = M 99 2 ∧ M1 100 3 = M 99 3 ∧ M1 103 0 = 1 ∧ M1 100 49 = M 100 49 ∧ M1 100 50 = M 100 50 ∧ M1 100 51 = M 100 51 ∧ M1 100 52 = M 100 52 ∧ M1 103 1 = M 103 1) ∧ (a = 1 → r = 0 ∧ M1 100 49 = M 99 0 ∧ M1 100 50 = M 99 1 ∧ M1 100 51 = M 99 2 ∧ M1 100 52 = M 99 3 ∧ M1 103 1 = 1 ∧ M1 100 0 = M 100 0 ∧ M1 100 1 = M 100 1 ∧ M1 100 2 = M 100 2 ∧ M1 100 3 = M 100 3 ∧ M1 103 0 = M 103 0)) ∧ (((0 ≤ a ∧ a ≤ 1) → (∀ j : Nat, j < 49 → M1 100 (49 * a.toNat + j) = M 99 j) ∧ (∀ q : Nat, (q < 49 * a.toNat ∨ 49 * a.toNat + 49 ≤ q) → M1 100 q = M 100 q) ∧ (∀ j : Nat, j < 25 → M1 102 (25 * a.toNat + j) = M 101 j) ∧ (∀ q : Nat, (q < 25 * a.toNat ∨ 25 * a.toNat + 25 ≤ q) → M1 102 q = M 102 q)) ∧ (¬ (0 ≤ a ∧ a ≤ 1) → M1 100 = M 100 ∧ M1 102 = M 102)) ∧ M1 97 1 = ngv r ∧ M1 98 = telF (M 98) r))) := by
  refine Con.ofG rfl (Nat.le_of_ble_eq_true rfl) ?_
  show G X 12 RX10 cX10_image 3 (some .int) (Qi (fun r M1 => IM M1 ∧ Fr (fun c => c = 97 ∨ c = 98 ∨ c = 100 ∨ c = 102 ∨ c = 103) M M1 ∧ M1 99 0 = M 99 0 ∧ M1 99 1 = M 99 1 ∧ M1 99 2 = M 99 2 ∧ M1 99 3 = M 99 3 ∧ M1 97 12 = M 97 12 ∧ M1 97 17 = M 97 17 ∧ M1 97 33 = M 97 33 ∧ M1 97 10 = M 97 10 ∧ M1 97 44 = M 97 44 ∧ ((((a < 0 ∨ 1 < a) → r = -1 ∧ M1 100 0 = M 100 0 ∧ M1 100 1 = M 100 1 ∧ M1 100 2 = M 100 2 ∧ M1 100 3 = M 100 3 ∧ M1 103 0 = M 103 0 ∧ M1 100 49 = M 100 49 ∧ M1 100 50 = M 100 50 ∧ M1 100 51 = M 100 51 ∧ M1 100 52 = M 100 52 ∧ M1 103 1 = M 103 1) ∧ (a = 0 → r = 0 ∧ M1 100 0 = M 99 0 ∧ M1 100 1 = M 99 1 ∧ M1 100 2 = M 99 2 ∧ M1 100 3 = M 99 3 ∧ M1 103 0 = 1 ∧ M1 100 49 = M 100 49 ∧ M1 100 50 = M 100 50 ∧ M1 100 51 = M 100 51 ∧ M1 100 52 = M 100 52 ∧ M1 103 1 = M 103 1) ∧ (a = 1 → r = 0 ∧ M1 100 49 = M 99 0 ∧ M1 100 50 = M 99 1 ∧ M1 100 51 = M 99 2 ∧ M1 100 52 = M 99 3 ∧ M1 103 1 = 1 ∧ M1 100 0 = M 100 0 ∧ M1 100 1 = M 100 1 ∧ M1 100 2 = M 100 2 ∧ M1 100 3 = M 100 3 ∧ M1 103 0 = M 103 0)) ∧ (((0 ≤ a ∧ a ≤ 1) → (∀ j : Nat, j < 49 → M1 100 (49 * a.toNat + j) = M 99 j) ∧ (∀ q : Nat, (q < 49 * a.toNat ∨ 49 * a.toNat + 49 ≤ q) → M1 100 q = M 100 q) ∧ (∀ j : Nat, j < 25 → M1 102 (25 * a.toNat + j) = M 101 j) ∧ (∀ q : Nat, (q < 25 * a.toNat ∨ 25 * a.toNat + 25 ≤ q) → M1 102 q = M 102 q)) ∧ (¬ (0 ≤ a ∧ a ≤ 1) → M1 100 = M 100 ∧ M1 102 = M 102)) ∧ M1 97 1 = ngv r ∧ M1 98 = telF (M 98) r))) 0 [(0, vr X 97), (1, vi a)] [] M
  have p0 := hi.1.1
  have p1 := hi.1.2.1
  have p2 := hi.1.2.2.1
  have p3 := hi.1.2.2.2.1
  have p12 := hi.2.2.2.1
  refine g_aload_n (pc' := 1) 0 dX10_image_0 rfl rfl ?_
  refine g_iconst (pc' := 2) dX10_image_1 rfl ?_
  refine g_putI (pc' := 5) dX10_image_2 rfl p_X10_77 rfl rfl (by decide) (fun M1 hM1 => ?_)
  have iM1 : IM M1 := IM.wr hi hM1 (by unfold okv; first | decide | omega)
  have fM1 : Fr (fun c => c = 97 ∨ c = 98 ∨ c = 100 ∨ c = 102 ∨ c = 103) M M1 := Fr.wr Fr.rf hM1 (by first | decide | omega | (dsimp only; omega))
  have q99_0_M1 : (M1 99 0 = M 99 0) := (show M1 99 0 = M 99 0 by rw [hM1]; exact mu_ne _ _ (by first | decide | omega))
  have q99_1_M1 : (M1 99 1 = M 99 1) := (show M1 99 1 = M 99 1 by rw [hM1]; exact mu_ne _ _ (by first | decide | omega))
  have q99_2_M1 : (M1 99 2 = M 99 2) := (show M1 99 2 = M 99 2 by rw [hM1]; exact mu_ne _ _ (by first | decide | omega))
  have q99_3_M1 : (M1 99 3 = M 99 3) := (show M1 99 3 = M 99 3 by rw [hM1]; exact mu_ne _ _ (by first | decide | omega))
  have q97_12_M1 : (M1 97 12 = M 97 12) := (show M1 97 12 = M 97 12 by rw [hM1]; exact mu_ne _ _ (by first | decide | omega))
  have q97_17_M1 : (M1 97 17 = M 97 17) := (show M1 97 17 = M 97 17 by rw [hM1]; exact mu_ne _ _ (by first | decide | omega))
  have q97_33_M1 : (M1 97 33 = M 97 33) := (show M1 97 33 = M 97 33 by rw [hM1]; exact mu_ne _ _ (by first | decide | omega))
  have q97_10_M1 : (M1 97 10 = M 97 10) := (show M1 97 10 = M 97 10 by rw [hM1]; exact mu_ne _ _ (by first | decide | omega))
  have q97_44_M1 : (M1 97 44 = M 97 44) := (show M1 97 44 = M 97 44 by rw [hM1]; exact mu_ne _ _ (by first | decide | omega))
  have q100_0_M1 : (M1 100 0 = M 100 0) := (show M1 100 0 = M 100 0 by rw [hM1]; exact mu_ne _ _ (by first | decide | omega))
  have q100_1_M1 : (M1 100 1 = M 100 1) := (show M1 100 1 = M 100 1 by rw [hM1]; exact mu_ne _ _ (by first | decide | omega))
  have q100_2_M1 : (M1 100 2 = M 100 2) := (show M1 100 2 = M 100 2 by rw [hM1]; exact mu_ne _ _ (by first | decide | omega))
  have q100_3_M1 : (M1 100 3 = M 100 3) := (show M1 100 3 = M 100 3 by rw [hM1]; exact mu_ne _ _ (by first | decide | omega))
  have q103_0_M1 : (M1 103 0 = M 103 0) := (show M1 103 0 = M 103 0 by rw [hM1]; exact mu_ne _ _ (by first | decide | omega))
  have q100_49_M1 : (M1 100 49 = M 100 49) := (show M1 100 49 = M 100 49 by rw [hM1]; exact mu_ne _ _ (by first | decide | omega))
  have q100_50_M1 : (M1 100 50 = M 100 50) := (show M1 100 50 = M 100 50 by rw [hM1]; exact mu_ne _ _ (by first | decide | omega))
  have q100_51_M1 : (M1 100 51 = M 100 51) := (show M1 100 51 = M 100 51 by rw [hM1]; exact mu_ne _ _ (by first | decide | omega))
  have q100_52_M1 : (M1 100 52 = M 100 52) := (show M1 100 52 = M 100 52 by rw [hM1]; exact mu_ne _ _ (by first | decide | omega))
  have q103_1_M1 : (M1 103 1 = M 103 1) := (show M1 103 1 = M 103 1 by rw [hM1]; exact mu_ne _ _ (by first | decide | omega))
  have q97_1_M1 : (M1 97 1 = M 97 1) := (show M1 97 1 = M 97 1 by rw [hM1]; exact mu_ne _ _ (by first | decide | omega))
  have wM1_100_0 : M1 100 0 = M 100 0 := by rw [hM1]; exact mu_ne _ _ (by first | decide | omega)
  have wM1_100_1 : M1 100 1 = M 100 1 := by rw [hM1]; exact mu_ne _ _ (by first | decide | omega)
  have wM1_100_2 : M1 100 2 = M 100 2 := by rw [hM1]; exact mu_ne _ _ (by first | decide | omega)
  have wM1_100_3 : M1 100 3 = M 100 3 := by rw [hM1]; exact mu_ne _ _ (by first | decide | omega)
  have wM1_103_0 : M1 103 0 = M 103 0 := by rw [hM1]; exact mu_ne _ _ (by first | decide | omega)
  have wM1_100_49 : M1 100 49 = M 100 49 := by rw [hM1]; exact mu_ne _ _ (by first | decide | omega)
  have wM1_100_50 : M1 100 50 = M 100 50 := by rw [hM1]; exact mu_ne _ _ (by first | decide | omega)
  have wM1_100_51 : M1 100 51 = M 100 51 := by rw [hM1]; exact mu_ne _ _ (by first | decide | omega)
  have wM1_100_52 : M1 100 52 = M 100 52 := by rw [hM1]; exact mu_ne _ _ (by first | decide | omega)
  have wM1_103_1 : M1 103 1 = M 103 1 := by rw [hM1]; exact mu_ne _ _ (by first | decide | omega)
  have wM1_97_1 : M1 97 1 = M 97 1 := by rw [hM1]; exact mu_ne _ _ (by first | decide | omega)
  have wM1_97_1 : M1 97 1 = M 97 1 := by rw [hM1]; exact mu_ne _ _ (by first | decide | omega)
  have xM1_97_0 : M1 97 0 = 0 := by rw [hM1]; exact mu_at _ _ _ _
  have e99M1 : M1 99 = M 99 := by rw [hM1, mu_cell _ _ (by decide)]
  have e101M1 : M1 101 = M 101 := by rw [hM1, mu_cell _ _ (by decide)]
  have e103M1 : M1 103 = M 103 := by rw [hM1, mu_cell _ _ (by decide)]
  have e102M1 : M1 102 = M 102 := by rw [hM1, mu_cell _ _ (by decide)]
  have e44M1 : M1 97 44 = M 97 44 := by rw [hM1, mu_ne _ _ (by first | decide | omega)]
  have us0M1 : ∀ q : Nat, (q < 49 * a.toNat ∨ 49 * a.toNat + 49 ≤ q) → M1 100 q = M 100 q := fun q _ => by rw [hM1, mu_cell _ _ (by decide)]
  have k98M1 : M1 98 = M 98 := (show M1 98 = M 98 by rw [hM1]; exact mu_cell _ _ (by decide))
  refine g_iload_n (pc' := 6) 1 dX10_image_5 rfl rfl ?_
  refine g_i2l (pc' := 7) ha dX10_image_6 rfl ?_
  refine g_lconst (pc' := 8) (v := 0) dX10_image_7 rfl (by decide) ?_
  refine g_lconst (pc' := 9) (v := 1) dX10_image_8 rfl (by decide) ?_
  refine g_callSip (pc' := 12) (As := [vl a, vl 0, vl 1]) (S := []) dX10_image_9 rfl m_X10_83 w_X10_in (c_X10_in X M1 a ⟨by omega, by omega⟩ 0 (by decide) 1 (by decide)) rfl (by decide) (by decide) rfl (Nat.le_of_ble_eq_true rfl) (fun z3 q2 => ?_)
  refine g_if_ne (pc' := 15) (tgt := 21) ⟨by omega, by omega⟩ dX10_image_12 rfl rfl (fun c4 => ?_) (fun c4 => ?_)
  · replace q2 := q2.resolve_right (fun h => c4 h.1)
    refine g_iconst (pc' := 22) dX10_image_21 rfl ?_
    refine g_istore_n (pc' := 23) (i := 2) (L' := [(2, vi 0), (0, vr X 97), (1, vi a)]) dX10_image_22 rfl rfl (by decide) rfl ?_
    refine g_sub [0, 1, 2] rfl ?_
    exact l_X10_image_x_23 X M hi a ha _ 0 M1 fM1 q99_0_M1 q99_1_M1 q99_2_M1 q99_3_M1 q97_12_M1 q97_17_M1 q97_33_M1 q97_10_M1 q97_44_M1 q97_1_M1 (by omega) (by omega) e99M1 e101M1 e44M1 e103M1 (by omega) e102M1 (fun j hj => by omega) us0M1 k98M1 rfl
  · replace q2 := q2.resolve_left (fun h => absurd (c4.symm.trans h.1) (by decide))
    refine g_aload_n (pc' := 16) 0 dX10_image_15 rfl rfl ?_
    refine g_iconst (pc' := 17) dX10_image_16 rfl ?_
    refine g_callVi (pc' := 20) (As := [vi (-1)]) (b := 97) (S := []) dX10_image_17 rfl m_X10_87 w_X10_tell (c_X10_tell_x X M1 iM1 (-1) (by decide) (by omega)) rfl ⟨_, _, _, rfl, rfl, rfl⟩ (by decide) (by decide) rfl (Nat.le_of_ble_eq_true rfl) (fun z6 M7 q5 => ?_)
    obtain ⟨iM7, fM70, eM7_99_0, eM7_99_1, eM7_99_2, eM7_99_3, eM7_100_0, eM7_100_1, eM7_100_2, eM7_100_3, eM7_100_49, eM7_100_50, eM7_100_51, eM7_100_52, eM7_103_0, eM7_103_1, eM7_97_12, eM7_97_17, eM7_97_33, eM7_97_10, eM7_97_44, pM7⟩ := q5
    have fM7 : Fr (fun c => c = 97 ∨ c = 98 ∨ c = 100 ∨ c = 102 ∨ c = 103) M M7 := Fr.tr fM1 fM70 fi_38
    have q99_0_M7 : (M7 99 0 = M 99 0) := eM7_99_0.trans q99_0_M1
    have q99_1_M7 : (M7 99 1 = M 99 1) := eM7_99_1.trans q99_1_M1
    have q99_2_M7 : (M7 99 2 = M 99 2) := eM7_99_2.trans q99_2_M1
    have q99_3_M7 : (M7 99 3 = M 99 3) := eM7_99_3.trans q99_3_M1
    have q97_12_M7 : (M7 97 12 = M 97 12) := eM7_97_12.trans q97_12_M1
    have q97_17_M7 : (M7 97 17 = M 97 17) := eM7_97_17.trans q97_17_M1
    have q97_33_M7 : (M7 97 33 = M 97 33) := eM7_97_33.trans q97_33_M1
    have q97_10_M7 : (M7 97 10 = M 97 10) := eM7_97_10.trans q97_10_M1
    have q97_44_M7 : (M7 97 44 = M 97 44) := eM7_97_44.trans q97_44_M1
    have q100_0_M7 : (M7 100 0 = M 100 0) := eM7_100_0.trans q100_0_M1
    have q100_1_M7 : (M7 100 1 = M 100 1) := eM7_100_1.trans q100_1_M1
    have q100_2_M7 : (M7 100 2 = M 100 2) := eM7_100_2.trans q100_2_M1
    have q100_3_M7 : (M7 100 3 = M 100 3) := eM7_100_3.trans q100_3_M1
    have q103_0_M7 : (M7 103 0 = M 103 0) := eM7_103_0.trans q103_0_M1
    have q100_49_M7 : (M7 100 49 = M 100 49) := eM7_100_49.trans q100_49_M1
    have q100_50_M7 : (M7 100 50 = M 100 50) := eM7_100_50.trans q100_50_M1
    have q100_51_M7 : (M7 100 51 = M 100 51) := eM7_100_51.trans q100_51_M1
    have q100_52_M7 : (M7 100 52 = M 100 52) := eM7_100_52.trans q100_52_M1
    have q103_1_M7 : (M7 103 1 = M 103 1) := eM7_103_1.trans q103_1_M1
    have wM7_100_0 : M7 100 0 = M1 100 0 := eM7_100_0
    have wM7_100_1 : M7 100 1 = M1 100 1 := eM7_100_1
    have wM7_100_2 : M7 100 2 = M1 100 2 := eM7_100_2
    have wM7_100_3 : M7 100 3 = M1 100 3 := eM7_100_3
    have wM7_103_0 : M7 103 0 = M1 103 0 := eM7_103_0
    have wM7_100_49 : M7 100 49 = M1 100 49 := eM7_100_49
    have wM7_100_50 : M7 100 50 = M1 100 50 := eM7_100_50
    have wM7_100_51 : M7 100 51 = M1 100 51 := eM7_100_51
    have wM7_100_52 : M7 100 52 = M1 100 52 := eM7_100_52
    have wM7_103_1 : M7 103 1 = M1 103 1 := eM7_103_1
    obtain ⟨anM7, asM7, a98M7⟩ := pM7
    rw [k98M1] at a98M7
    subst anM7
    refine g_ireturn dX10_image_20 ?_
    exact ⟨iM7, fM7, q99_0_M7, q99_1_M7, q99_2_M7, q99_3_M7, q97_12_M7, q97_17_M7, q97_33_M7, q97_10_M7, q97_44_M7, by omega, ⟨fun z => absurd z (by omega), fun _ => ⟨by rw [fM70 100 (by decide), hM1, mu_cell _ _ (by decide)], by rw [fM70 102 (by decide), hM1, mu_cell _ _ (by decide)]⟩⟩, asM7, a98M7⟩
set_option maxHeartbeats 4000000 in
set_option maxRecDepth 100000 in
theorem l_X10_back_x_70 (X : Cx) (M : Mm) (hi : IM M) (a : Int) (ha : inI a) : ∀ (kk : Nat) (i : Int) (M1 : Mm) (fr1 : Fr (fun c => c = 97 ∨ c = 98 ∨ c = 99 ∨ c = 101) M M1) (q100_0 : id (M1 100 0 = M 100 0)) (q100_1 : id (M1 100 1 = M 100 1)) (q100_2 : id (M1 100 2 = M 100 2)) (q100_3 : id (M1 100 3 = M 100 3)) (q100_49 : id (M1 100 49 = M 100 49)) (q100_50 : id (M1 100 50 = M 100 50)) (q100_51 : id (M1 100 51 = M 100 51)) (q100_52 : id (M1 100 52 = M 100 52)) (q103_0 : id (M1 103 0 = M 103 0)) (q103_1 : id (M1 103 1 = M 103 1)) (q97_12 : (M1 97 12 = M 97 12)) (q97_17 : (M1 97 17 = M 97 17)) (q97_33 : (M1 97 33 = M 97 33)) (q97_10 : (M1 97 10 = M 97 10)) (q97_44 : (M1 97 44 = M 97 44)) (q97_1 : (M1 97 1 = M 97 1)) (a01 : 0 ≤ a ∧ a ≤ 1) (k0 : 0 ≤ i) (e100 : M1 100 = M 100) (e102 : M1 102 = M 102) (e103 : M1 103 = M 103) (e44 : M1 97 44 = M 97 44) (hkz : M 103 a.toNat ≠ 0) (k1 : i ≤ 25) (cR : ∀ j : Nat, j < 49 → M1 99 j = M 100 (49 * a.toNat + j)) (cp : ∀ j : Nat, (j : Int) < i → M1 101 (0 + j) = M 102 (25 * a.toNat + j)) (k98 : M1 98 = M 98), (25 - i).toNat = kk → G X 12 RX10 cX10_back 3 (some .int) (Qi (fun r M1 => IM M1 ∧ Fr (fun c => c = 97 ∨ c = 98 ∨ c = 99 ∨ c = 101) M M1 ∧ M1 100 0 = M 100 0 ∧ M1 100 1 = M 100 1 ∧ M1 100 2 = M 100 2 ∧ M1 100 3 = M 100 3 ∧ M1 100 49 = M 100 49 ∧ M1 100 50 = M 100 50 ∧ M1 100 51 = M 100 51 ∧ M1 100 52 = M 100 52 ∧ M1 103 0 = M 103 0 ∧ M1 103 1 = M 103 1 ∧ M1 97 12 = M 97 12 ∧ M1 97 17 = M 97 17 ∧ M1 97 33 = M 97 33 ∧ M1 97 10 = M 97 10 ∧ M1 97 44 = M 97 44 ∧ ((((a < 0 ∨ 1 < a) → r = -1 ∧ M1 99 0 = M 99 0 ∧ M1 99 1 = M 99 1 ∧ M1 99 2 = M 99 2 ∧ M1 99 3 = M 99 3) ∧ (a = 0 → M 103 0 = 0 → r = -2 ∧ M1 99 0 = M 99 0 ∧ M1 99 1 = M 99 1 ∧ M1 99 2 = M 99 2 ∧ M1 99 3 = M 99 3) ∧ (a = 1 → M 103 1 = 0 → r = -2 ∧ M1 99 0 = M 99 0 ∧ M1 99 1 = M 99 1 ∧ M1 99 2 = M 99 2 ∧ M1 99 3 = M 99 3) ∧ (a = 0 → M 103 0 ≠ 0 → r = 0 ∧ M1 99 0 = M 100 0 ∧ M1 99 1 = M 100 1 ∧ M1 99 2 = M 100 2 ∧ M1 99 3 = M 100 3) ∧ (a = 1 → M 103 1 ≠ 0 → r = 0 ∧ M1 99 0 = M 100 49 ∧ M1 99 1 = M 100 50 ∧ M1 99 2 = M 100 51 ∧ M1 99 3 = M 100 52)) ∧ ((((0 ≤ a ∧ a ≤ 1) ∧ M 103 a.toNat ≠ 0) → (∀ j : Nat, j < 49 → M1 99 j = M 100 (49 * a.toNat + j)) ∧ (∀ j : Nat, j < 25 → M1 101 j = M 102 (25 * a.toNat + j))) ∧ (¬ ((0 ≤ a ∧ a ≤ 1) ∧ M 103 a.toNat ≠ 0) → M1 99 = M 99 ∧ M1 101 = M 101)) ∧ M1 97 1 = ngv r ∧ M1 98 = telF (M 98) r))) 70 [(2, vi i), (0, vr X 97), (1, vi a)] [] M1 := by
  intro kk
  induction kk using Nat.strongRecOn with
  | ind kk ih =>
    intro i M1 fr1 q100_0 q100_1 q100_2 q100_3 q100_49 q100_50 q100_51 q100_52 q103_0 q103_1 q97_12 q97_17 q97_33 q97_10 q97_44 q97_1 a01 k0 e100 e102 e103 e44 hkz k1 cR cp k98 hmes
    refine g_iload_n (pc' := 71) 0 dX10_back_70 rfl rfl ?_
    refine g_bipush (pc' := 73) (v := 25) dX10_back_71 rfl (by decide) ?_
    refine g_ic_ge (pc' := 76) (tgt := 99) ⟨by omega, by omega⟩ (by decide) dX10_back_73 rfl rfl (fun c1 => ?_) (fun c1 => ?_)
    · have iB : IM M1 := IM.back (k := a.toNat) hi (by omega) hkz e100 e102 e103 q97_12 e44 cR (fun j hj => by have := cp j (by omega); rw [Nat.zero_add] at this; exact this)
      have g0 : a = 0 → M 103 0 ≠ 0 ∧ M1 99 0 = M 100 0 ∧ M1 99 1 = M 100 1 ∧ M1 99 2 = M 100 2 ∧ M1 99 3 = M 100 3 := fun z => by
        subst z
        exact ⟨hkz, cR 0 (by omega), cR 1 (by omega), cR 2 (by omega), cR 3 (by omega)⟩
      have g1 : a = 1 → M 103 1 ≠ 0 ∧ M1 99 0 = M 100 49 ∧ M1 99 1 = M 100 50 ∧ M1 99 2 = M 100 51 ∧ M1 99 3 = M 100 52 := fun z => by
        subst z
        exact ⟨hkz, cR 0 (by omega), cR 1 (by omega), cR 2 (by omega), cR 3 (by omega)⟩
      refine g_aload_n (pc' := 100) 1 dX10_back_99 rfl rfl ?_
      refine g_iconst (pc' := 101) dX10_back_100 rfl ?_
      refine g_callVi (pc' := 104) (As := [vi 0]) (b := 97) (S := []) dX10_back_101 rfl m_X10_87 w_X10_tell (c_X10_tell_x X M1 iB 0 (by decide) (by omega)) rfl ⟨_, _, _, rfl, rfl, rfl⟩ (by decide) (by decide) rfl (Nat.le_of_ble_eq_true rfl) (fun z3 M4 q2 => ?_)
      obtain ⟨iM4, fM40, eM4_99_0, eM4_99_1, eM4_99_2, eM4_99_3, eM4_100_0, eM4_100_1, eM4_100_2, eM4_100_3, eM4_100_49, eM4_100_50, eM4_100_51, eM4_100_52, eM4_103_0, eM4_103_1, eM4_97_12, eM4_97_17, eM4_97_33, eM4_97_10, eM4_97_44, pM4⟩ := q2
      have fM4 : Fr (fun c => c = 97 ∨ c = 98 ∨ c = 99 ∨ c = 101) M M4 := Fr.tr fr1 fM40 fi_39
      have q100_0_M4 : id (M4 100 0 = M 100 0) := eM4_100_0.trans q100_0
      have q100_1_M4 : id (M4 100 1 = M 100 1) := eM4_100_1.trans q100_1
      have q100_2_M4 : id (M4 100 2 = M 100 2) := eM4_100_2.trans q100_2
      have q100_3_M4 : id (M4 100 3 = M 100 3) := eM4_100_3.trans q100_3
      have q100_49_M4 : id (M4 100 49 = M 100 49) := eM4_100_49.trans q100_49
      have q100_50_M4 : id (M4 100 50 = M 100 50) := eM4_100_50.trans q100_50
      have q100_51_M4 : id (M4 100 51 = M 100 51) := eM4_100_51.trans q100_51
      have q100_52_M4 : id (M4 100 52 = M 100 52) := eM4_100_52.trans q100_52
      have q103_0_M4 : id (M4 103 0 = M 103 0) := eM4_103_0.trans q103_0
      have q103_1_M4 : id (M4 103 1 = M 103 1) := eM4_103_1.trans q103_1
      have q97_12_M4 : (M4 97 12 = M 97 12) := eM4_97_12.trans q97_12
      have q97_17_M4 : (M4 97 17 = M 97 17) := eM4_97_17.trans q97_17
      have q97_33_M4 : (M4 97 33 = M 97 33) := eM4_97_33.trans q97_33
      have q97_10_M4 : (M4 97 10 = M 97 10) := eM4_97_10.trans q97_10
      have q97_44_M4 : (M4 97 44 = M 97 44) := eM4_97_44.trans q97_44
      have wM4_99_0 : M4 99 0 = M1 99 0 := eM4_99_0
      have wM4_99_1 : M4 99 1 = M1 99 1 := eM4_99_1
      have wM4_99_2 : M4 99 2 = M1 99 2 := eM4_99_2
      have wM4_99_3 : M4 99 3 = M1 99 3 := eM4_99_3
      clear eM4_100_0 eM4_100_1 eM4_100_2 eM4_100_3 eM4_100_49 eM4_100_50 eM4_100_51 eM4_100_52 eM4_103_0 eM4_103_1
      obtain ⟨anM4, asM4, a98M4⟩ := pM4
      rw [k98] at a98M4
      subst anM4
      refine g_ireturn dX10_back_104 ?_
      exact ⟨iM4, fM4, q100_0_M4, q100_1_M4, q100_2_M4, q100_3_M4, q100_49_M4, q100_50_M4, q100_51_M4, q100_52_M4, q103_0_M4, q103_1_M4, q97_12_M4, q97_17_M4, q97_33_M4, q97_10_M4, q97_44_M4, by omega, ⟨fun _ => ⟨fun j hj => by rw [fM40 99 (by decide)]; exact cR j hj, fun j hj => by rw [fM40 101 (by decide)]; have := cp j (by omega); rw [Nat.zero_add] at this; exact this⟩, fun z => absurd (by first | exact ⟨by omega, hkz⟩ | omega) z⟩, asM4, a98M4⟩
    · refine g_aload_n (pc' := 77) 1 dX10_back_76 rfl rfl ?_
      refine g_getR (pc' := 80) dX10_back_77 rfl f_X10_19 rfl rfl ?_
      refine g_iload_n (pc' := 81) 0 dX10_back_80 rfl rfl ?_
      refine g_aload_n (pc' := 82) 1 dX10_back_81 rfl rfl ?_
      refine g_getR (pc' := 85) dX10_back_82 rfl f_X10_23 rfl rfl ?_
      refine g_bipush (pc' := 87) (v := 25) dX10_back_85 rfl (by decide) ?_
      refine g_iload_n (pc' := 88) 2 dX10_back_87 rfl rfl ?_
      refine g_imul (pc' := 89) dX10_back_88 rfl ?_
      refine g_iload_n (pc' := 90) 0 dX10_back_89 rfl rfl ?_
      refine g_iadd (pc' := 91) dX10_back_90 rfl ?_
      refine g_lald (pc' := 92) dX10_back_91 rfl rfl (by omega) (by omega) (fun v5 ev5 rv5 => ?_)
      have gv5 : v5 = M 102 (25 * a.toNat + i.toNat) := by rw [ev5, e102, show (25 * a + i).toNat = 25 * a.toNat + i.toNat by omega]
      refine g_last (pc' := 93) dX10_back_92 rfl rfl (by omega) (by omega) rv5 (fun M6 hM6 => ?_)
      have fM6 : Fr (fun c => c = 97 ∨ c = 98 ∨ c = 99 ∨ c = 101) M M6 := Fr.wr fr1 hM6 (by first | decide | omega | (dsimp only; omega))
      have q100_0_M6 : id (M6 100 0 = M 100 0) := (show M6 100 0 = M1 100 0 by rw [hM6]; exact mu_ne _ _ (by first | decide | omega)).trans q100_0
      have q100_1_M6 : id (M6 100 1 = M 100 1) := (show M6 100 1 = M1 100 1 by rw [hM6]; exact mu_ne _ _ (by first | decide | omega)).trans q100_1
      have q100_2_M6 : id (M6 100 2 = M 100 2) := (show M6 100 2 = M1 100 2 by rw [hM6]; exact mu_ne _ _ (by first | decide | omega)).trans q100_2
      have q100_3_M6 : id (M6 100 3 = M 100 3) := (show M6 100 3 = M1 100 3 by rw [hM6]; exact mu_ne _ _ (by first | decide | omega)).trans q100_3
      have q100_49_M6 : id (M6 100 49 = M 100 49) := (show M6 100 49 = M1 100 49 by rw [hM6]; exact mu_ne _ _ (by first | decide | omega)).trans q100_49
      have q100_50_M6 : id (M6 100 50 = M 100 50) := (show M6 100 50 = M1 100 50 by rw [hM6]; exact mu_ne _ _ (by first | decide | omega)).trans q100_50
      have q100_51_M6 : id (M6 100 51 = M 100 51) := (show M6 100 51 = M1 100 51 by rw [hM6]; exact mu_ne _ _ (by first | decide | omega)).trans q100_51
      have q100_52_M6 : id (M6 100 52 = M 100 52) := (show M6 100 52 = M1 100 52 by rw [hM6]; exact mu_ne _ _ (by first | decide | omega)).trans q100_52
      have q103_0_M6 : id (M6 103 0 = M 103 0) := (show M6 103 0 = M1 103 0 by rw [hM6]; exact mu_ne _ _ (by first | decide | omega)).trans q103_0
      have q103_1_M6 : id (M6 103 1 = M 103 1) := (show M6 103 1 = M1 103 1 by rw [hM6]; exact mu_ne _ _ (by first | decide | omega)).trans q103_1
      have q97_12_M6 : (M6 97 12 = M 97 12) := (show M6 97 12 = M1 97 12 by rw [hM6]; exact mu_ne _ _ (by first | decide | omega)).trans q97_12
      have q97_17_M6 : (M6 97 17 = M 97 17) := (show M6 97 17 = M1 97 17 by rw [hM6]; exact mu_ne _ _ (by first | decide | omega)).trans q97_17
      have q97_33_M6 : (M6 97 33 = M 97 33) := (show M6 97 33 = M1 97 33 by rw [hM6]; exact mu_ne _ _ (by first | decide | omega)).trans q97_33
      have q97_10_M6 : (M6 97 10 = M 97 10) := (show M6 97 10 = M1 97 10 by rw [hM6]; exact mu_ne _ _ (by first | decide | omega)).trans q97_10
      have q97_44_M6 : (M6 97 44 = M 97 44) := (show M6 97 44 = M1 97 44 by rw [hM6]; exact mu_ne _ _ (by first | decide | omega)).trans q97_44
      have q97_1_M6 : (M6 97 1 = M 97 1) := (show M6 97 1 = M1 97 1 by rw [hM6]; exact mu_ne _ _ (by first | decide | omega)).trans q97_1
      have wM6_99_0 : M6 99 0 = M1 99 0 := by rw [hM6]; exact mu_ne _ _ (by first | decide | omega)
      have wM6_99_1 : M6 99 1 = M1 99 1 := by rw [hM6]; exact mu_ne _ _ (by first | decide | omega)
      have wM6_99_2 : M6 99 2 = M1 99 2 := by rw [hM6]; exact mu_ne _ _ (by first | decide | omega)
      have wM6_99_3 : M6 99 3 = M1 99 3 := by rw [hM6]; exact mu_ne _ _ (by first | decide | omega)
      have wM6_97_1 : M6 97 1 = M1 97 1 := by rw [hM6]; exact mu_ne _ _ (by first | decide | omega)
      have wM6_97_1 : M6 97 1 = M1 97 1 := by rw [hM6]; exact mu_ne _ _ (by first | decide | omega)
      have e100M6 : M6 100 = M 100 := by rw [hM6, mu_cell _ _ (by decide)]; exact e100
      have e102M6 : M6 102 = M 102 := by rw [hM6, mu_cell _ _ (by decide)]; exact e102
      have e103M6 : M6 103 = M 103 := by rw [hM6, mu_cell _ _ (by decide)]; exact e103
      have e44M6 : M6 97 44 = M 97 44 := by rw [hM6, mu_ne _ _ (by first | decide | omega)]; exact e44
      have cRM6 : ∀ j : Nat, j < 49 → M6 99 j = M 100 (49 * a.toNat + j) := fun j hj => by rw [hM6, mu_cell _ _ (by decide)]; exact cR j hj
      have k98M6 : M6 98 = M 98 := (show M6 98 = M1 98 by rw [hM6]; exact mu_cell _ _ (by decide)).trans k98
      refine g_iinc (pc' := 96) (L' := [(2, vi (i + 1)), (0, vr X 97), (1, vi a)]) 0 dX10_back_93 rfl rfl (by decide) rfl ?_
      refine g_goto (tgt := 70) dX10_back_96 rfl ?_
      refine g_sub [0, 1, 2] rfl ?_
      exact ih _ (by omega) (i + 1) M6 fM6 q100_0_M6 q100_1_M6 q100_2_M6 q100_3_M6 q100_49_M6 q100_50_M6 q100_51_M6 q100_52_M6 q103_0_M6 q103_1_M6 q97_12_M6 q97_17_M6 q97_33_M6 q97_10_M6 q97_44_M6 q97_1_M6 (by omega) (by omega) e100M6 e102M6 e103M6 e44M6 hkz (by omega) cRM6 (cstep (F := fun j => M 102 (25 * a.toNat + j)) cp hM6 (by omega) k0 gv5) k98M6 rfl
set_option maxHeartbeats 4000000 in
set_option maxRecDepth 100000 in
theorem l_X10_back_x_39 (X : Cx) (M : Mm) (hi : IM M) (a : Int) (ha : inI a) : ∀ (kk : Nat) (i : Int) (M1 : Mm) (fr1 : Fr (fun c => c = 97 ∨ c = 98 ∨ c = 99 ∨ c = 101) M M1) (q100_0 : id (M1 100 0 = M 100 0)) (q100_1 : id (M1 100 1 = M 100 1)) (q100_2 : id (M1 100 2 = M 100 2)) (q100_3 : id (M1 100 3 = M 100 3)) (q100_49 : id (M1 100 49 = M 100 49)) (q100_50 : id (M1 100 50 = M 100 50)) (q100_51 : id (M1 100 51 = M 100 51)) (q100_52 : id (M1 100 52 = M 100 52)) (q103_0 : id (M1 103 0 = M 103 0)) (q103_1 : id (M1 103 1 = M 103 1)) (q97_12 : (M1 97 12 = M 97 12)) (q97_17 : (M1 97 17 = M 97 17)) (q97_33 : (M1 97 33 = M 97 33)) (q97_10 : (M1 97 10 = M 97 10)) (q97_44 : (M1 97 44 = M 97 44)) (q97_1 : (M1 97 1 = M 97 1)) (a01 : 0 ≤ a ∧ a ≤ 1) (k0 : 0 ≤ i) (e100 : M1 100 = M 100) (e102 : M1 102 = M 102) (e103 : M1 103 = M 103) (e44 : M1 97 44 = M 97 44) (hkz : M 103 a.toNat ≠ 0) (k1 : i ≤ 49) (cp : ∀ j : Nat, (j : Int) < i → M1 99 (0 + j) = M 100 (49 * a.toNat + j)) (k98 : M1 98 = M 98), (49 - i).toNat = kk → G X 12 RX10 cX10_back 3 (some .int) (Qi (fun r M1 => IM M1 ∧ Fr (fun c => c = 97 ∨ c = 98 ∨ c = 99 ∨ c = 101) M M1 ∧ M1 100 0 = M 100 0 ∧ M1 100 1 = M 100 1 ∧ M1 100 2 = M 100 2 ∧ M1 100 3 = M 100 3 ∧ M1 100 49 = M 100 49 ∧ M1 100 50 = M 100 50 ∧ M1 100 51 = M 100 51 ∧ M1 100 52 = M 100 52 ∧ M1 103 0 = M 103 0 ∧ M1 103 1 = M 103 1 ∧ M1 97 12 = M 97 12 ∧ M1 97 17 = M 97 17 ∧ M1 97 33 = M 97 33 ∧ M1 97 10 = M 97 10 ∧ M1 97 44 = M 97 44 ∧ ((((a < 0 ∨ 1 < a) → r = -1 ∧ M1 99 0 = M 99 0 ∧ M1 99 1 = M 99 1 ∧ M1 99 2 = M 99 2 ∧ M1 99 3 = M 99 3) ∧ (a = 0 → M 103 0 = 0 → r = -2 ∧ M1 99 0 = M 99 0 ∧ M1 99 1 = M 99 1 ∧ M1 99 2 = M 99 2 ∧ M1 99 3 = M 99 3) ∧ (a = 1 → M 103 1 = 0 → r = -2 ∧ M1 99 0 = M 99 0 ∧ M1 99 1 = M 99 1 ∧ M1 99 2 = M 99 2 ∧ M1 99 3 = M 99 3) ∧ (a = 0 → M 103 0 ≠ 0 → r = 0 ∧ M1 99 0 = M 100 0 ∧ M1 99 1 = M 100 1 ∧ M1 99 2 = M 100 2 ∧ M1 99 3 = M 100 3) ∧ (a = 1 → M 103 1 ≠ 0 → r = 0 ∧ M1 99 0 = M 100 49 ∧ M1 99 1 = M 100 50 ∧ M1 99 2 = M 100 51 ∧ M1 99 3 = M 100 52)) ∧ ((((0 ≤ a ∧ a ≤ 1) ∧ M 103 a.toNat ≠ 0) → (∀ j : Nat, j < 49 → M1 99 j = M 100 (49 * a.toNat + j)) ∧ (∀ j : Nat, j < 25 → M1 101 j = M 102 (25 * a.toNat + j))) ∧ (¬ ((0 ≤ a ∧ a ≤ 1) ∧ M 103 a.toNat ≠ 0) → M1 99 = M 99 ∧ M1 101 = M 101)) ∧ M1 97 1 = ngv r ∧ M1 98 = telF (M 98) r))) 39 [(2, vi i), (0, vr X 97), (1, vi a)] [] M1 := by
  intro kk
  induction kk using Nat.strongRecOn with
  | ind kk ih =>
    intro i M1 fr1 q100_0 q100_1 q100_2 q100_3 q100_49 q100_50 q100_51 q100_52 q103_0 q103_1 q97_12 q97_17 q97_33 q97_10 q97_44 q97_1 a01 k0 e100 e102 e103 e44 hkz k1 cp k98 hmes
    refine g_iload_n (pc' := 40) 0 dX10_back_39 rfl rfl ?_
    refine g_bipush (pc' := 42) (v := 49) dX10_back_40 rfl (by decide) ?_
    refine g_ic_ge (pc' := 45) (tgt := 68) ⟨by omega, by omega⟩ (by decide) dX10_back_42 rfl rfl (fun c1 => ?_) (fun c1 => ?_)
    · refine g_iconst (pc' := 69) dX10_back_68 rfl ?_
      refine g_istore_n (pc' := 70) (i := 2) (L' := [(2, vi 0), (0, vr X 97), (1, vi a)]) dX10_back_69 rfl rfl (by decide) rfl ?_
      refine g_sub [0, 1, 2] rfl ?_
      exact l_X10_back_x_70 X M hi a ha _ 0 M1 fr1 q100_0 q100_1 q100_2 q100_3 q100_49 q100_50 q100_51 q100_52 q103_0 q103_1 q97_12 q97_17 q97_33 q97_10 q97_44 q97_1 (by omega) (by omega) e100 e102 e103 e44 hkz (by omega) (fun j hj => by have := cp j (by omega); rw [Nat.zero_add] at this; exact this) (fun j hj => by omega) k98 rfl
    · refine g_aload_n (pc' := 46) 1 dX10_back_45 rfl rfl ?_
      refine g_getR (pc' := 49) dX10_back_46 rfl f_X10_13 rfl rfl ?_
      refine g_iload_n (pc' := 50) 0 dX10_back_49 rfl rfl ?_
      refine g_aload_n (pc' := 51) 1 dX10_back_50 rfl rfl ?_
      refine g_getR (pc' := 54) dX10_back_51 rfl f_X10_16 rfl rfl ?_
      refine g_bipush (pc' := 56) (v := 49) dX10_back_54 rfl (by decide) ?_
      refine g_iload_n (pc' := 57) 2 dX10_back_56 rfl rfl ?_
      refine g_imul (pc' := 58) dX10_back_57 rfl ?_
      refine g_iload_n (pc' := 59) 0 dX10_back_58 rfl rfl ?_
      refine g_iadd (pc' := 60) dX10_back_59 rfl ?_
      refine g_iald (pc' := 61) dX10_back_60 rfl rfl (by omega) (by omega) (fun v2 ev2 rv2 => ?_)
      have gv2 : v2 = M 100 (49 * a.toNat + i.toNat) := by rw [ev2, e100, show (49 * a + i).toNat = 49 * a.toNat + i.toNat by omega]
      refine g_iast (pc' := 62) dX10_back_61 rfl rfl (by omega) (by omega) rv2 (fun M3 hM3 => ?_)
      have fM3 : Fr (fun c => c = 97 ∨ c = 98 ∨ c = 99 ∨ c = 101) M M3 := Fr.wr fr1 hM3 (by first | decide | omega | (dsimp only; omega))
      have q100_0_M3 : id (M3 100 0 = M 100 0) := (show M3 100 0 = M1 100 0 by rw [hM3]; exact mu_ne _ _ (by first | decide | omega)).trans q100_0
      have q100_1_M3 : id (M3 100 1 = M 100 1) := (show M3 100 1 = M1 100 1 by rw [hM3]; exact mu_ne _ _ (by first | decide | omega)).trans q100_1
      have q100_2_M3 : id (M3 100 2 = M 100 2) := (show M3 100 2 = M1 100 2 by rw [hM3]; exact mu_ne _ _ (by first | decide | omega)).trans q100_2
      have q100_3_M3 : id (M3 100 3 = M 100 3) := (show M3 100 3 = M1 100 3 by rw [hM3]; exact mu_ne _ _ (by first | decide | omega)).trans q100_3
      have q100_49_M3 : id (M3 100 49 = M 100 49) := (show M3 100 49 = M1 100 49 by rw [hM3]; exact mu_ne _ _ (by first | decide | omega)).trans q100_49
      have q100_50_M3 : id (M3 100 50 = M 100 50) := (show M3 100 50 = M1 100 50 by rw [hM3]; exact mu_ne _ _ (by first | decide | omega)).trans q100_50
      have q100_51_M3 : id (M3 100 51 = M 100 51) := (show M3 100 51 = M1 100 51 by rw [hM3]; exact mu_ne _ _ (by first | decide | omega)).trans q100_51
      have q100_52_M3 : id (M3 100 52 = M 100 52) := (show M3 100 52 = M1 100 52 by rw [hM3]; exact mu_ne _ _ (by first | decide | omega)).trans q100_52
      have q103_0_M3 : id (M3 103 0 = M 103 0) := (show M3 103 0 = M1 103 0 by rw [hM3]; exact mu_ne _ _ (by first | decide | omega)).trans q103_0
      have q103_1_M3 : id (M3 103 1 = M 103 1) := (show M3 103 1 = M1 103 1 by rw [hM3]; exact mu_ne _ _ (by first | decide | omega)).trans q103_1
      have q97_12_M3 : (M3 97 12 = M 97 12) := (show M3 97 12 = M1 97 12 by rw [hM3]; exact mu_ne _ _ (by first | decide | omega)).trans q97_12
      have q97_17_M3 : (M3 97 17 = M 97 17) := (show M3 97 17 = M1 97 17 by rw [hM3]; exact mu_ne _ _ (by first | decide | omega)).trans q97_17
      have q97_33_M3 : (M3 97 33 = M 97 33) := (show M3 97 33 = M1 97 33 by rw [hM3]; exact mu_ne _ _ (by first | decide | omega)).trans q97_33
      have q97_10_M3 : (M3 97 10 = M 97 10) := (show M3 97 10 = M1 97 10 by rw [hM3]; exact mu_ne _ _ (by first | decide | omega)).trans q97_10
      have q97_44_M3 : (M3 97 44 = M 97 44) := (show M3 97 44 = M1 97 44 by rw [hM3]; exact mu_ne _ _ (by first | decide | omega)).trans q97_44
      have q97_1_M3 : (M3 97 1 = M 97 1) := (show M3 97 1 = M1 97 1 by rw [hM3]; exact mu_ne _ _ (by first | decide | omega)).trans q97_1
      have wM3_97_1 : M3 97 1 = M1 97 1 := by rw [hM3]; exact mu_ne _ _ (by first | decide | omega)
      have wM3_97_1 : M3 97 1 = M1 97 1 := by rw [hM3]; exact mu_ne _ _ (by first | decide | omega)
      have e100M3 : M3 100 = M 100 := by rw [hM3, mu_cell _ _ (by decide)]; exact e100
      have e102M3 : M3 102 = M 102 := by rw [hM3, mu_cell _ _ (by decide)]; exact e102
      have e103M3 : M3 103 = M 103 := by rw [hM3, mu_cell _ _ (by decide)]; exact e103
      have e44M3 : M3 97 44 = M 97 44 := by rw [hM3, mu_ne _ _ (by first | decide | omega)]; exact e44
      have k98M3 : M3 98 = M 98 := (show M3 98 = M1 98 by rw [hM3]; exact mu_cell _ _ (by decide)).trans k98
      refine g_iinc (pc' := 65) (L' := [(2, vi (i + 1)), (0, vr X 97), (1, vi a)]) 0 dX10_back_62 rfl rfl (by decide) rfl ?_
      refine g_goto (tgt := 39) dX10_back_65 rfl ?_
      refine g_sub [0, 1, 2] rfl ?_
      exact ih _ (by omega) (i + 1) M3 fM3 q100_0_M3 q100_1_M3 q100_2_M3 q100_3_M3 q100_49_M3 q100_50_M3 q100_51_M3 q100_52_M3 q103_0_M3 q103_1_M3 q97_12_M3 q97_17_M3 q97_33_M3 q97_10_M3 q97_44_M3 q97_1_M3 (by omega) (by omega) e100M3 e102M3 e103M3 e44M3 hkz (by omega) (cstep (F := fun j => M 100 (49 * a.toNat + j)) cp hM3 (by omega) k0 gv2) k98M3 rfl
set_option maxHeartbeats 4000000 in
set_option maxRecDepth 100000 in
theorem c_X10_back_x (X : Cx) (M : Mm) (hi : IM M) (a : Int) (ha : inI a) : Con X 12 yX10_back cX10_back 3 (some .int) [vr X 97, vi a] M (Qi (fun r M1 => IM M1 ∧ Fr (fun c => c = 97 ∨ c = 98 ∨ c = 99 ∨ c = 101) M M1 ∧ M1 100 0 = M 100 0 ∧ M1 100 1 = M 100 1 ∧ M1 100 2 = M 100 2 ∧ M1 100 3 = M 100 3 ∧ M1 100 49 = M 100 49 ∧ M1 100 50 = M 100 50 ∧ M1 100 51 = M 100 51 ∧ M1 100 52 = M 100 52 ∧ M1 103 0 = M 103 0 ∧ M1 103 1 = M 103 1 ∧ M1 97 12 = M 97 12 ∧ M1 97 17 = M 97 17 ∧ M1 97 33 = M 97 33 ∧ M1 97 10 = M 97 10 ∧ M1 97 44 = M 97 44 ∧ ((((a < 0 ∨ 1 < a) → r = -1 ∧ M1 99 0 = M 99 0 ∧ M1 99 1 = M 99 1 ∧ M1 99 2 = M 99 2 ∧ M1 99 3 = M 99 3) ∧ (a = 0 → M 103 0 = 0 → r = -2 ∧ M1 99 0 = M 99 0 ∧ M1 99 1 = M 99 1 ∧ M1 99 2 = M 99 2 ∧ M1 99 3 = M 99 3) ∧ (a = 1 → M 103 1 = 0 → r = -2 ∧ M1 99 0 = M 99 0 ∧ M1 99 1 = M 99 1 ∧ M1 99 2 = M 99 2 ∧ M1 99 3 = M 99 3) ∧ (a = 0 → M 103 0 ≠ 0 → r = 0 ∧ M1 99 0 = M 100 0 ∧ M1 99 1 = M 100 1 ∧ M1 99 2 = M 100 2 ∧ M1 99 3 = M 100 3) ∧ (a = 1 → M 103 1 ≠ 0 → r = 0 ∧ M1 99 0 = M 100 49 ∧ M1 99 1 = M 100 50 ∧ M1 99 2 = M 100 51 ∧ M1 99 3 = M 100 52)) ∧ ((((0 ≤ a ∧ a ≤ 1) ∧ M 103 a.toNat ≠ 0) → (∀ j : Nat, j < 49 → M1 99 j = M 100 (49 * a.toNat + j)) ∧ (∀ j : Nat, j < 25 → M1 101 j = M 102 (25 * a.toNat + j))) ∧ (¬ ((0 ≤ a ∧ a ≤ 1) ∧ M 103 a.toNat ≠ 0) → M1 99 = M 99 ∧ M1 101 = M 101)) ∧ M1 97 1 = ngv r ∧ M1 98 = telF (M 98) r))) := by
  refine Con.ofG rfl (Nat.le_of_ble_eq_true rfl) ?_
  show G X 12 RX10 cX10_back 3 (some .int) (Qi (fun r M1 => IM M1 ∧ Fr (fun c => c = 97 ∨ c = 98 ∨ c = 99 ∨ c = 101) M M1 ∧ M1 100 0 = M 100 0 ∧ M1 100 1 = M 100 1 ∧ M1 100 2 = M 100 2 ∧ M1 100 3 = M 100 3 ∧ M1 100 49 = M 100 49 ∧ M1 100 50 = M 100 50 ∧ M1 100 51 = M 100 51 ∧ M1 100 52 = M 100 52 ∧ M1 103 0 = M 103 0 ∧ M1 103 1 = M 103 1 ∧ M1 97 12 = M 97 12 ∧ M1 97 17 = M 97 17 ∧ M1 97 33 = M 97 33 ∧ M1 97 10 = M 97 10 ∧ M1 97 44 = M 97 44 ∧ ((((a < 0 ∨ 1 < a) → r = -1 ∧ M1 99 0 = M 99 0 ∧ M1 99 1 = M 99 1 ∧ M1 99 2 = M 99 2 ∧ M1 99 3 = M 99 3) ∧ (a = 0 → M 103 0 = 0 → r = -2 ∧ M1 99 0 = M 99 0 ∧ M1 99 1 = M 99 1 ∧ M1 99 2 = M 99 2 ∧ M1 99 3 = M 99 3) ∧ (a = 1 → M 103 1 = 0 → r = -2 ∧ M1 99 0 = M 99 0 ∧ M1 99 1 = M 99 1 ∧ M1 99 2 = M 99 2 ∧ M1 99 3 = M 99 3) ∧ (a = 0 → M 103 0 ≠ 0 → r = 0 ∧ M1 99 0 = M 100 0 ∧ M1 99 1 = M 100 1 ∧ M1 99 2 = M 100 2 ∧ M1 99 3 = M 100 3) ∧ (a = 1 → M 103 1 ≠ 0 → r = 0 ∧ M1 99 0 = M 100 49 ∧ M1 99 1 = M 100 50 ∧ M1 99 2 = M 100 51 ∧ M1 99 3 = M 100 52)) ∧ ((((0 ≤ a ∧ a ≤ 1) ∧ M 103 a.toNat ≠ 0) → (∀ j : Nat, j < 49 → M1 99 j = M 100 (49 * a.toNat + j)) ∧ (∀ j : Nat, j < 25 → M1 101 j = M 102 (25 * a.toNat + j))) ∧ (¬ ((0 ≤ a ∧ a ≤ 1) ∧ M 103 a.toNat ≠ 0) → M1 99 = M 99 ∧ M1 101 = M 101)) ∧ M1 97 1 = ngv r ∧ M1 98 = telF (M 98) r))) 0 [(0, vr X 97), (1, vi a)] [] M
  have p0 := hi.1.1
  have p1 := hi.1.2.1
  have p2 := hi.1.2.2.1
  have p3 := hi.1.2.2.2.1
  have p12 := hi.2.2.2.1
  refine g_aload_n (pc' := 1) 0 dX10_back_0 rfl rfl ?_
  refine g_iconst (pc' := 2) dX10_back_1 rfl ?_
  refine g_putI (pc' := 5) dX10_back_2 rfl p_X10_77 rfl rfl (by decide) (fun M1 hM1 => ?_)
  have iM1 : IM M1 := IM.wr hi hM1 (by unfold okv; first | decide | omega)
  have fM1 : Fr (fun c => c = 97 ∨ c = 98 ∨ c = 99 ∨ c = 101) M M1 := Fr.wr Fr.rf hM1 (by first | decide | omega | (dsimp only; omega))
  have q100_0_M1 : id (M1 100 0 = M 100 0) := (show M1 100 0 = M 100 0 by rw [hM1]; exact mu_ne _ _ (by first | decide | omega))
  have q100_1_M1 : id (M1 100 1 = M 100 1) := (show M1 100 1 = M 100 1 by rw [hM1]; exact mu_ne _ _ (by first | decide | omega))
  have q100_2_M1 : id (M1 100 2 = M 100 2) := (show M1 100 2 = M 100 2 by rw [hM1]; exact mu_ne _ _ (by first | decide | omega))
  have q100_3_M1 : id (M1 100 3 = M 100 3) := (show M1 100 3 = M 100 3 by rw [hM1]; exact mu_ne _ _ (by first | decide | omega))
  have q100_49_M1 : id (M1 100 49 = M 100 49) := (show M1 100 49 = M 100 49 by rw [hM1]; exact mu_ne _ _ (by first | decide | omega))
  have q100_50_M1 : id (M1 100 50 = M 100 50) := (show M1 100 50 = M 100 50 by rw [hM1]; exact mu_ne _ _ (by first | decide | omega))
  have q100_51_M1 : id (M1 100 51 = M 100 51) := (show M1 100 51 = M 100 51 by rw [hM1]; exact mu_ne _ _ (by first | decide | omega))
  have q100_52_M1 : id (M1 100 52 = M 100 52) := (show M1 100 52 = M 100 52 by rw [hM1]; exact mu_ne _ _ (by first | decide | omega))
  have q103_0_M1 : id (M1 103 0 = M 103 0) := (show M1 103 0 = M 103 0 by rw [hM1]; exact mu_ne _ _ (by first | decide | omega))
  have q103_1_M1 : id (M1 103 1 = M 103 1) := (show M1 103 1 = M 103 1 by rw [hM1]; exact mu_ne _ _ (by first | decide | omega))
  have q97_12_M1 : (M1 97 12 = M 97 12) := (show M1 97 12 = M 97 12 by rw [hM1]; exact mu_ne _ _ (by first | decide | omega))
  have q97_17_M1 : (M1 97 17 = M 97 17) := (show M1 97 17 = M 97 17 by rw [hM1]; exact mu_ne _ _ (by first | decide | omega))
  have q97_33_M1 : (M1 97 33 = M 97 33) := (show M1 97 33 = M 97 33 by rw [hM1]; exact mu_ne _ _ (by first | decide | omega))
  have q97_10_M1 : (M1 97 10 = M 97 10) := (show M1 97 10 = M 97 10 by rw [hM1]; exact mu_ne _ _ (by first | decide | omega))
  have q97_44_M1 : (M1 97 44 = M 97 44) := (show M1 97 44 = M 97 44 by rw [hM1]; exact mu_ne _ _ (by first | decide | omega))
  have q99_0_M1 : (M1 99 0 = M 99 0) := (show M1 99 0 = M 99 0 by rw [hM1]; exact mu_ne _ _ (by first | decide | omega))
  have q99_1_M1 : (M1 99 1 = M 99 1) := (show M1 99 1 = M 99 1 by rw [hM1]; exact mu_ne _ _ (by first | decide | omega))
  have q99_2_M1 : (M1 99 2 = M 99 2) := (show M1 99 2 = M 99 2 by rw [hM1]; exact mu_ne _ _ (by first | decide | omega))
  have q99_3_M1 : (M1 99 3 = M 99 3) := (show M1 99 3 = M 99 3 by rw [hM1]; exact mu_ne _ _ (by first | decide | omega))
  have q97_1_M1 : (M1 97 1 = M 97 1) := (show M1 97 1 = M 97 1 by rw [hM1]; exact mu_ne _ _ (by first | decide | omega))
  have wM1_99_0 : M1 99 0 = M 99 0 := by rw [hM1]; exact mu_ne _ _ (by first | decide | omega)
  have wM1_99_1 : M1 99 1 = M 99 1 := by rw [hM1]; exact mu_ne _ _ (by first | decide | omega)
  have wM1_99_2 : M1 99 2 = M 99 2 := by rw [hM1]; exact mu_ne _ _ (by first | decide | omega)
  have wM1_99_3 : M1 99 3 = M 99 3 := by rw [hM1]; exact mu_ne _ _ (by first | decide | omega)
  have wM1_97_1 : M1 97 1 = M 97 1 := by rw [hM1]; exact mu_ne _ _ (by first | decide | omega)
  have wM1_97_1 : M1 97 1 = M 97 1 := by rw [hM1]; exact mu_ne _ _ (by first | decide | omega)
  have xM1_97_0 : M1 97 0 = 0 := by rw [hM1]; exact mu_at _ _ _ _
  have e100M1 : M1 100 = M 100 := by rw [hM1, mu_cell _ _ (by decide)]
  have e102M1 : M1 102 = M 102 := by rw [hM1, mu_cell _ _ (by decide)]
  have e103M1 : M1 103 = M 103 := by rw [hM1, mu_cell _ _ (by decide)]
  have e44M1 : M1 97 44 = M 97 44 := by rw [hM1, mu_ne _ _ (by first | decide | omega)]
  have k98M1 : M1 98 = M 98 := (show M1 98 = M 98 by rw [hM1]; exact mu_cell _ _ (by decide))
  refine g_iload_n (pc' := 6) 1 dX10_back_5 rfl rfl ?_
  refine g_i2l (pc' := 7) ha dX10_back_6 rfl ?_
  refine g_lconst (pc' := 8) (v := 0) dX10_back_7 rfl (by decide) ?_
  refine g_lconst (pc' := 9) (v := 1) dX10_back_8 rfl (by decide) ?_
  refine g_callSip (pc' := 12) (As := [vl a, vl 0, vl 1]) (S := []) dX10_back_9 rfl m_X10_83 w_X10_in (c_X10_in X M1 a ⟨by omega, by omega⟩ 0 (by decide) 1 (by decide)) rfl (by decide) (by decide) rfl (Nat.le_of_ble_eq_true rfl) (fun z3 q2 => ?_)
  refine g_if_ne (pc' := 15) (tgt := 21) ⟨by omega, by omega⟩ dX10_back_12 rfl rfl (fun c4 => ?_) (fun c4 => ?_)
  · replace q2 := q2.resolve_right (fun h => c4 h.1)
    refine g_aload_n (pc' := 22) 0 dX10_back_21 rfl rfl ?_
    refine g_getR (pc' := 25) dX10_back_22 rfl f_X10_26 rfl rfl ?_
    refine g_iload_n (pc' := 26) 1 dX10_back_25 rfl rfl ?_
    refine g_zald (pc' := 27) dX10_back_26 rfl rfl (by omega) (by omega) (fun v5 ev5 rv5 => ?_)
    have nv5 : v5 = M 103 a.toNat := by rw [ev5, e103M1]
    have n0v5 : a = 0 → v5 = M 103 0 := fun z => by rw [nv5, z]; rfl
    have n1v5 : a = 1 → v5 = M 103 1 := fun z => by rw [nv5, z]; rfl
    refine g_if_ne (pc' := 30) (tgt := 37) rv5 dX10_back_27 rfl rfl (fun c6 => ?_) (fun c6 => ?_)
    · refine g_iconst (pc' := 38) dX10_back_37 rfl ?_
      refine g_istore_n (pc' := 39) (i := 2) (L' := [(2, vi 0), (0, vr X 97), (1, vi a)]) dX10_back_38 rfl rfl (by decide) rfl ?_
      refine g_sub [0, 1, 2] rfl ?_
      exact l_X10_back_x_39 X M hi a ha _ 0 M1 fM1 q100_0_M1 q100_1_M1 q100_2_M1 q100_3_M1 q100_49_M1 q100_50_M1 q100_51_M1 q100_52_M1 q103_0_M1 q103_1_M1 q97_12_M1 q97_17_M1 q97_33_M1 q97_10_M1 q97_44_M1 q97_1_M1 (by omega) (by omega) e100M1 e102M1 e103M1 e44M1 (by rw [← nv5]; assumption) (by omega) (fun j hj => by omega) k98M1 rfl
    · refine g_aload_n (pc' := 31) 0 dX10_back_30 rfl rfl ?_
      refine g_bipush (pc' := 33) (v := (-2)) dX10_back_31 rfl (by decide) ?_
      refine g_callVi (pc' := 36) (As := [vi (-2)]) (b := 97) (S := []) dX10_back_33 rfl m_X10_87 w_X10_tell (c_X10_tell_x X M1 iM1 (-2) (by decide) (by omega)) rfl ⟨_, _, _, rfl, rfl, rfl⟩ (by decide) (by decide) rfl (Nat.le_of_ble_eq_true rfl) (fun z8 M9 q7 => ?_)
      obtain ⟨iM9, fM90, eM9_99_0, eM9_99_1, eM9_99_2, eM9_99_3, eM9_100_0, eM9_100_1, eM9_100_2, eM9_100_3, eM9_100_49, eM9_100_50, eM9_100_51, eM9_100_52, eM9_103_0, eM9_103_1, eM9_97_12, eM9_97_17, eM9_97_33, eM9_97_10, eM9_97_44, pM9⟩ := q7
      have fM9 : Fr (fun c => c = 97 ∨ c = 98 ∨ c = 99 ∨ c = 101) M M9 := Fr.tr fM1 fM90 fi_39
      have q100_0_M9 : id (M9 100 0 = M 100 0) := eM9_100_0.trans q100_0_M1
      have q100_1_M9 : id (M9 100 1 = M 100 1) := eM9_100_1.trans q100_1_M1
      have q100_2_M9 : id (M9 100 2 = M 100 2) := eM9_100_2.trans q100_2_M1
      have q100_3_M9 : id (M9 100 3 = M 100 3) := eM9_100_3.trans q100_3_M1
      have q100_49_M9 : id (M9 100 49 = M 100 49) := eM9_100_49.trans q100_49_M1
      have q100_50_M9 : id (M9 100 50 = M 100 50) := eM9_100_50.trans q100_50_M1
      have q100_51_M9 : id (M9 100 51 = M 100 51) := eM9_100_51.trans q100_51_M1
      have q100_52_M9 : id (M9 100 52 = M 100 52) := eM9_100_52.trans q100_52_M1
      have q103_0_M9 : id (M9 103 0 = M 103 0) := eM9_103_0.trans q103_0_M1
      have q103_1_M9 : id (M9 103 1 = M 103 1) := eM9_103_1.trans q103_1_M1
      have q97_12_M9 : (M9 97 12 = M 97 12) := eM9_97_12.trans q97_12_M1
      have q97_17_M9 : (M9 97 17 = M 97 17) := eM9_97_17.trans q97_17_M1
      have q97_33_M9 : (M9 97 33 = M 97 33) := eM9_97_33.trans q97_33_M1
      have q97_10_M9 : (M9 97 10 = M 97 10) := eM9_97_10.trans q97_10_M1
      have q97_44_M9 : (M9 97 44 = M 97 44) := eM9_97_44.trans q97_44_M1
      have q99_0_M9 : (M9 99 0 = M 99 0) := eM9_99_0.trans q99_0_M1
      have q99_1_M9 : (M9 99 1 = M 99 1) := eM9_99_1.trans q99_1_M1
      have q99_2_M9 : (M9 99 2 = M 99 2) := eM9_99_2.trans q99_2_M1
      have q99_3_M9 : (M9 99 3 = M 99 3) := eM9_99_3.trans q99_3_M1
      have wM9_99_0 : M9 99 0 = M1 99 0 := eM9_99_0
      have wM9_99_1 : M9 99 1 = M1 99 1 := eM9_99_1
      have wM9_99_2 : M9 99 2 = M1 99 2 := eM9_99_2
      have wM9_99_3 : M9 99 3 = M1 99 3 := eM9_99_3
      clear eM9_100_0 eM9_100_1 eM9_100_2 eM9_100_3 eM9_100_49 eM9_100_50 eM9_100_51 eM9_100_52 eM9_103_0 eM9_103_1
      obtain ⟨anM9, asM9, a98M9⟩ := pM9
      rw [k98M1] at a98M9
      subst anM9
      refine g_ireturn dX10_back_36 ?_
      exact ⟨iM9, fM9, q100_0_M9, q100_1_M9, q100_2_M9, q100_3_M9, q100_49_M9, q100_50_M9, q100_51_M9, q100_52_M9, q103_0_M9, q103_1_M9, q97_12_M9, q97_17_M9, q97_33_M9, q97_10_M9, q97_44_M9, by omega, ⟨fun z => absurd z (by omega), fun _ => ⟨by rw [fM90 99 (by decide), hM1, mu_cell _ _ (by decide)], by rw [fM90 101 (by decide), hM1, mu_cell _ _ (by decide)]⟩⟩, asM9, a98M9⟩
  · replace q2 := q2.resolve_left (fun h => absurd (c4.symm.trans h.1) (by decide))
    refine g_aload_n (pc' := 16) 0 dX10_back_15 rfl rfl ?_
    refine g_iconst (pc' := 17) dX10_back_16 rfl ?_
    refine g_callVi (pc' := 20) (As := [vi (-1)]) (b := 97) (S := []) dX10_back_17 rfl m_X10_87 w_X10_tell (c_X10_tell_x X M1 iM1 (-1) (by decide) (by omega)) rfl ⟨_, _, _, rfl, rfl, rfl⟩ (by decide) (by decide) rfl (Nat.le_of_ble_eq_true rfl) (fun z11 M12 q10 => ?_)
    obtain ⟨iM12, fM120, eM12_99_0, eM12_99_1, eM12_99_2, eM12_99_3, eM12_100_0, eM12_100_1, eM12_100_2, eM12_100_3, eM12_100_49, eM12_100_50, eM12_100_51, eM12_100_52, eM12_103_0, eM12_103_1, eM12_97_12, eM12_97_17, eM12_97_33, eM12_97_10, eM12_97_44, pM12⟩ := q10
    have fM12 : Fr (fun c => c = 97 ∨ c = 98 ∨ c = 99 ∨ c = 101) M M12 := Fr.tr fM1 fM120 fi_39
    have q100_0_M12 : id (M12 100 0 = M 100 0) := eM12_100_0.trans q100_0_M1
    have q100_1_M12 : id (M12 100 1 = M 100 1) := eM12_100_1.trans q100_1_M1
    have q100_2_M12 : id (M12 100 2 = M 100 2) := eM12_100_2.trans q100_2_M1
    have q100_3_M12 : id (M12 100 3 = M 100 3) := eM12_100_3.trans q100_3_M1
    have q100_49_M12 : id (M12 100 49 = M 100 49) := eM12_100_49.trans q100_49_M1
    have q100_50_M12 : id (M12 100 50 = M 100 50) := eM12_100_50.trans q100_50_M1
    have q100_51_M12 : id (M12 100 51 = M 100 51) := eM12_100_51.trans q100_51_M1
    have q100_52_M12 : id (M12 100 52 = M 100 52) := eM12_100_52.trans q100_52_M1
    have q103_0_M12 : id (M12 103 0 = M 103 0) := eM12_103_0.trans q103_0_M1
    have q103_1_M12 : id (M12 103 1 = M 103 1) := eM12_103_1.trans q103_1_M1
    have q97_12_M12 : (M12 97 12 = M 97 12) := eM12_97_12.trans q97_12_M1
    have q97_17_M12 : (M12 97 17 = M 97 17) := eM12_97_17.trans q97_17_M1
    have q97_33_M12 : (M12 97 33 = M 97 33) := eM12_97_33.trans q97_33_M1
    have q97_10_M12 : (M12 97 10 = M 97 10) := eM12_97_10.trans q97_10_M1
    have q97_44_M12 : (M12 97 44 = M 97 44) := eM12_97_44.trans q97_44_M1
    have q99_0_M12 : (M12 99 0 = M 99 0) := eM12_99_0.trans q99_0_M1
    have q99_1_M12 : (M12 99 1 = M 99 1) := eM12_99_1.trans q99_1_M1
    have q99_2_M12 : (M12 99 2 = M 99 2) := eM12_99_2.trans q99_2_M1
    have q99_3_M12 : (M12 99 3 = M 99 3) := eM12_99_3.trans q99_3_M1
    have wM12_99_0 : M12 99 0 = M1 99 0 := eM12_99_0
    have wM12_99_1 : M12 99 1 = M1 99 1 := eM12_99_1
    have wM12_99_2 : M12 99 2 = M1 99 2 := eM12_99_2
    have wM12_99_3 : M12 99 3 = M1 99 3 := eM12_99_3
    clear eM12_100_0 eM12_100_1 eM12_100_2 eM12_100_3 eM12_100_49 eM12_100_50 eM12_100_51 eM12_100_52 eM12_103_0 eM12_103_1
    obtain ⟨anM12, asM12, a98M12⟩ := pM12
    rw [k98M1] at a98M12
    subst anM12
    refine g_ireturn dX10_back_20 ?_
    exact ⟨iM12, fM12, q100_0_M12, q100_1_M12, q100_2_M12, q100_3_M12, q100_49_M12, q100_50_M12, q100_51_M12, q100_52_M12, q103_0_M12, q103_1_M12, q97_12_M12, q97_17_M12, q97_33_M12, q97_10_M12, q97_44_M12, by omega, ⟨fun z => absurd z (by omega), fun _ => ⟨by rw [fM120 99 (by decide), hM1, mu_cell _ _ (by decide)], by rw [fM120 101 (by decide), hM1, mu_cell _ _ (by decide)]⟩⟩, asM12, a98M12⟩
set_option maxHeartbeats 4000000 in
set_option maxRecDepth 100000 in
theorem c_X9_count_x (X : Cx) (M : Mm) (hi : IC M) (a : Int) (ha : inI a) : Con X 10 yX9_count cX9_count 2 (some .int) [vr X 0, vi a] M (Qi (fun r M1 => M1 = M ∧ ((a = 0 → r = M 2 5) ∧ (a = 1 → r = M 1 2) ∧ (a = 2 → r = M 1 4) ∧ (a = 3 → r = M 1 6) ∧ (a = 4 → r = M 31 1) ∧ ((5 ≤ a ∧ a ≤ 9) → r = M 96 (a - 5).toNat) ∧ ((10 ≤ a ∧ a < 10 + M 1 2) → r = M 7 (a - 10).toNat) ∧ (¬ (0 ≤ a ∧ a < 10 + M 1 2) → r = -1)))) := by
  refine Con.ofG rfl (Nat.le_of_ble_eq_true rfl) ?_
  show G X 10 RX9 cX9_count 2 (some .int) (Qi (fun r M1 => M1 = M ∧ ((a = 0 → r = M 2 5) ∧ (a = 1 → r = M 1 2) ∧ (a = 2 → r = M 1 4) ∧ (a = 3 → r = M 1 6) ∧ (a = 4 → r = M 31 1) ∧ ((5 ≤ a ∧ a ≤ 9) → r = M 96 (a - 5).toNat) ∧ ((10 ≤ a ∧ a < 10 + M 1 2) → r = M 7 (a - 10).toNat) ∧ (¬ (0 ≤ a ∧ a < 10 + M 1 2) → r = -1)))) 0 [(0, vr X 0), (1, vi a)] [] M
  have hsc := hi.2.1.1.1
  refine g_iload_n (pc' := 1) 1 dX9_count_0 rfl rfl ?_
  by_cases c1 : a = 0
  · refine g_tabIn (tgt := 36) (off := 35) ha dX9_count_1 (by omega) (by omega) (by rw [c1]; rfl) rfl ?_
    refine g_aload_n (pc' := 37) 0 dX9_count_36 rfl rfl ?_
    refine g_getR (pc' := 40) dX9_count_37 rfl f_X9_12 rfl rfl ?_
    refine g_getR (pc' := 43) dX9_count_40 rfl f_X9_86 rfl rfl ?_
    refine g_getI (pc' := 46) dX9_count_43 rfl f_X9_274 rfl rfl (fun v2 ev2 rv2 => ?_)
    have bv2 : 0 ≤ v2 ∧ v2 ≤ 6 := by rw [ev2]; exact ⟨(hi.1 2 isT_2).1, (hi.1 2 isT_2).2.1⟩
    refine g_ireturn dX9_count_46 ?_
    exact ⟨rfl, by first | omega | (refine ⟨fun q => by omega, fun q => by omega, fun q => by omega, fun q => by omega, fun q => by omega, fun q => by omega, fun q => by omega, fun q => by omega⟩)⟩
  by_cases c3 : a = 1
  · refine g_tabIn (tgt := 47) (off := 46) ha dX9_count_1 (by omega) (by omega) (by rw [c3]; rfl) rfl ?_
    refine g_aload_n (pc' := 48) 0 dX9_count_47 rfl rfl ?_
    refine g_getR (pc' := 51) dX9_count_48 rfl f_X9_12 rfl rfl ?_
    refine g_getI (pc' := 54) dX9_count_51 rfl f_X9_207 rfl rfl (fun v4 ev4 rv4 => ?_)
    have bv4 : 0 ≤ v4 ∧ v4 ≤ 3 := by rw [ev4]; exact hi.2.1.1.1
    refine g_ireturn dX9_count_54 ?_
    exact ⟨rfl, by first | omega | (refine ⟨fun q => by omega, fun q => by omega, fun q => by omega, fun q => by omega, fun q => by omega, fun q => by omega, fun q => by omega, fun q => by omega⟩)⟩
  by_cases c5 : a = 2
  · refine g_tabIn (tgt := 55) (off := 54) ha dX9_count_1 (by omega) (by omega) (by rw [c5]; rfl) rfl ?_
    refine g_aload_n (pc' := 56) 0 dX9_count_55 rfl rfl ?_
    refine g_getR (pc' := 59) dX9_count_56 rfl f_X9_12 rfl rfl ?_
    refine g_getI (pc' := 62) dX9_count_59 rfl f_X9_213 rfl rfl (fun v6 ev6 rv6 => ?_)
    have bv6 : 0 ≤ v6 ∧ v6 ≤ 6 := by rw [ev6]; exact hi.2.1.1.2.1
    refine g_ireturn dX9_count_62 ?_
    exact ⟨rfl, by first | omega | (refine ⟨fun q => by omega, fun q => by omega, fun q => by omega, fun q => by omega, fun q => by omega, fun q => by omega, fun q => by omega, fun q => by omega⟩)⟩
  by_cases c7 : a = 3
  · refine g_tabIn (tgt := 63) (off := 62) ha dX9_count_1 (by omega) (by omega) (by rw [c7]; rfl) rfl ?_
    refine g_aload_n (pc' := 64) 0 dX9_count_63 rfl rfl ?_
    refine g_getR (pc' := 67) dX9_count_64 rfl f_X9_12 rfl rfl ?_
    refine g_getI (pc' := 70) dX9_count_67 rfl f_X9_247 rfl rfl (fun v8 ev8 rv8 => ?_)
    have bv8 : 0 ≤ v8 ∧ v8 ≤ 6 := by rw [ev8]; exact hi.2.1.1.2.2
    refine g_ireturn dX9_count_70 ?_
    exact ⟨rfl, by first | omega | (refine ⟨fun q => by omega, fun q => by omega, fun q => by omega, fun q => by omega, fun q => by omega, fun q => by omega, fun q => by omega, fun q => by omega⟩)⟩
  by_cases c9 : a = 4
  · refine g_tabIn (tgt := 71) (off := 70) ha dX9_count_1 (by omega) (by omega) (by rw [c9]; rfl) rfl ?_
    refine g_aload_n (pc' := 72) 0 dX9_count_71 rfl rfl ?_
    refine g_getR (pc' := 75) dX9_count_72 rfl f_X9_35 rfl rfl ?_
    refine g_getI (pc' := 78) dX9_count_75 rfl f_X9_147 rfl rfl (fun v10 ev10 rv10 => ?_)
    have bv10 : 0 ≤ v10 ∧ v10 ≤ 400 := by rw [ev10]; exact hi.2.2.1.1
    refine g_ireturn dX9_count_78 ?_
    exact ⟨rfl, by first | omega | (refine ⟨fun q => by omega, fun q => by omega, fun q => by omega, fun q => by omega, fun q => by omega, fun q => by omega, fun q => by omega, fun q => by omega⟩)⟩
  refine g_tabOut (tgt := 79) ha dX9_count_1 (by omega) rfl ?_
  refine g_iload_n (pc' := 80) 1 dX9_count_79 rfl rfl ?_
  refine g_iconst (pc' := 81) dX9_count_80 rfl ?_
  refine g_ic_lt (pc' := 84) (tgt := 99) ha (by decide) dX9_count_81 rfl rfl (fun c12 => ?_) (fun c12 => ?_)
  · refine g_iload_n (pc' := 100) 1 dX9_count_99 rfl rfl ?_
    refine g_bipush (pc' := 102) (v := 10) dX9_count_100 rfl (by decide) ?_
    refine g_ic_lt (pc' := 105) (tgt := 132) ha (by decide) dX9_count_102 rfl rfl (fun c13 => ?_) (fun c13 => ?_)
    · refine g_iconst (pc' := 133) dX9_count_132 rfl ?_
      refine g_ireturn dX9_count_133 ?_
      exact ⟨rfl, by first | omega | (refine ⟨fun q => by omega, fun q => by omega, fun q => by omega, fun q => by omega, fun q => by omega, fun q => by omega, fun q => by omega, fun q => by omega⟩)⟩
    · refine g_iload_n (pc' := 106) 1 dX9_count_105 rfl rfl ?_
      refine g_bipush (pc' := 108) (v := 10) dX9_count_106 rfl (by decide) ?_
      refine g_aload_n (pc' := 109) 0 dX9_count_108 rfl rfl ?_
      refine g_getR (pc' := 112) dX9_count_109 rfl f_X9_12 rfl rfl ?_
      refine g_getI (pc' := 115) dX9_count_112 rfl f_X9_207 rfl rfl (fun v14 ev14 rv14 => ?_)
      have bv14 : 0 ≤ v14 ∧ v14 ≤ 3 := by rw [ev14]; exact hi.2.1.1.1
      refine g_iadd (pc' := 116) dX9_count_115 rfl ?_
      refine g_ic_ge (pc' := 119) (tgt := 132) ha ⟨by omega, by omega⟩ dX9_count_116 rfl rfl (fun c15 => ?_) (fun c15 => ?_)
      · refine g_iconst (pc' := 133) dX9_count_132 rfl ?_
        refine g_ireturn dX9_count_133 ?_
        exact ⟨rfl, by first | omega | (refine ⟨fun q => by omega, fun q => by omega, fun q => by omega, fun q => by omega, fun q => by omega, fun q => by omega, fun q => by omega, fun q => by omega⟩)⟩
      · refine g_aload_n (pc' := 120) 0 dX9_count_119 rfl rfl ?_
        refine g_getR (pc' := 123) dX9_count_120 rfl f_X9_12 rfl rfl ?_
        refine g_getR (pc' := 126) dX9_count_123 rfl f_X9_210 rfl rfl ?_
        refine g_iload_n (pc' := 127) 1 dX9_count_126 rfl rfl ?_
        refine g_bipush (pc' := 129) (v := 10) dX9_count_127 rfl (by decide) ?_
        refine g_isub (pc' := 130) dX9_count_129 rfl ?_
        refine g_iald (pc' := 131) dX9_count_130 rfl rfl (by omega) (by omega) (fun v16 ev16 rv16 => ?_)
        refine g_ireturn dX9_count_131 ?_
        exact ⟨rfl, by first | omega | (refine ⟨fun q => by omega, fun q => by omega, fun q => by omega, fun q => by omega, fun q => by omega, fun q => by omega, fun q => by omega, fun q => by omega⟩)⟩
  · refine g_iload_n (pc' := 85) 1 dX9_count_84 rfl rfl ?_
    refine g_bipush (pc' := 87) (v := 10) dX9_count_85 rfl (by decide) ?_
    refine g_ic_ge (pc' := 90) (tgt := 99) ha (by decide) dX9_count_87 rfl rfl (fun c17 => ?_) (fun c17 => ?_)
    · refine g_iload_n (pc' := 100) 1 dX9_count_99 rfl rfl ?_
      refine g_bipush (pc' := 102) (v := 10) dX9_count_100 rfl (by decide) ?_
      refine g_ic_lt (pc' := 105) (tgt := 132) ha (by decide) dX9_count_102 rfl rfl (fun c18 => ?_) (fun c18 => ?_)
      · refine g_iconst (pc' := 133) dX9_count_132 rfl ?_
        refine g_ireturn dX9_count_133 ?_
        exact ⟨rfl, by first | omega | (refine ⟨fun q => by omega, fun q => by omega, fun q => by omega, fun q => by omega, fun q => by omega, fun q => by omega, fun q => by omega, fun q => by omega⟩)⟩
      · refine g_iload_n (pc' := 106) 1 dX9_count_105 rfl rfl ?_
        refine g_bipush (pc' := 108) (v := 10) dX9_count_106 rfl (by decide) ?_
        refine g_aload_n (pc' := 109) 0 dX9_count_108 rfl rfl ?_
        refine g_getR (pc' := 112) dX9_count_109 rfl f_X9_12 rfl rfl ?_
        refine g_getI (pc' := 115) dX9_count_112 rfl f_X9_207 rfl rfl (fun v19 ev19 rv19 => ?_)
        have bv19 : 0 ≤ v19 ∧ v19 ≤ 3 := by rw [ev19]; exact hi.2.1.1.1
        refine g_iadd (pc' := 116) dX9_count_115 rfl ?_
        refine g_ic_ge (pc' := 119) (tgt := 132) ha ⟨by omega, by omega⟩ dX9_count_116 rfl rfl (fun c20 => ?_) (fun c20 => ?_)
        · refine g_iconst (pc' := 133) dX9_count_132 rfl ?_
          refine g_ireturn dX9_count_133 ?_
          exact ⟨rfl, by first | omega | (refine ⟨fun q => by omega, fun q => by omega, fun q => by omega, fun q => by omega, fun q => by omega, fun q => by omega, fun q => by omega, fun q => by omega⟩)⟩
        · refine g_aload_n (pc' := 120) 0 dX9_count_119 rfl rfl ?_
          refine g_getR (pc' := 123) dX9_count_120 rfl f_X9_12 rfl rfl ?_
          refine g_getR (pc' := 126) dX9_count_123 rfl f_X9_210 rfl rfl ?_
          refine g_iload_n (pc' := 127) 1 dX9_count_126 rfl rfl ?_
          refine g_bipush (pc' := 129) (v := 10) dX9_count_127 rfl (by decide) ?_
          refine g_isub (pc' := 130) dX9_count_129 rfl ?_
          refine g_iald (pc' := 131) dX9_count_130 rfl rfl (by omega) (by omega) (fun v21 ev21 rv21 => ?_)
          refine g_ireturn dX9_count_131 ?_
          exact ⟨rfl, by first | omega | (refine ⟨fun q => by omega, fun q => by omega, fun q => by omega, fun q => by omega, fun q => by omega, fun q => by omega, fun q => by omega, fun q => by omega⟩)⟩
    · refine g_aload_n (pc' := 91) 0 dX9_count_90 rfl rfl ?_
      refine g_getR (pc' := 94) dX9_count_91 rfl f_X9_64 rfl rfl ?_
      refine g_iload_n (pc' := 95) 1 dX9_count_94 rfl rfl ?_
      refine g_iconst (pc' := 96) dX9_count_95 rfl ?_
      refine g_isub (pc' := 97) dX9_count_96 rfl ?_
      refine g_iald (pc' := 98) dX9_count_97 rfl rfl (by omega) (by omega) (fun v22 ev22 rv22 => ?_)
      refine g_ireturn dX9_count_98 ?_
      exact ⟨rfl, by first | omega | (refine ⟨fun q => by omega, fun q => by omega, fun q => by omega, fun q => by omega, fun q => by omega, fun q => by omega, fun q => by omega, fun q => by omega⟩)⟩
set_option maxHeartbeats 4000000 in
set_option maxRecDepth 100000 in
theorem c_X9_status_x (X : Cx) (M : Mm) (hi : IC M) : Con X 10 yX9_status cX9_status 1 (some .int) [vr X 0] M (Qi (fun r M1 => M1 = M ∧ (r = M 0 10))) := by
  refine Con.ofG rfl (Nat.le_of_ble_eq_true rfl) ?_
  show G X 10 RX9 cX9_status 1 (some .int) (Qi (fun r M1 => M1 = M ∧ (r = M 0 10))) 0 [(0, vr X 0)] [] M
  refine g_aload_n (pc' := 1) 0 dX9_status_0 rfl rfl ?_
  refine g_getI (pc' := 4) dX9_status_1 rfl f_X9_295 rfl rfl (fun v1 ev1 rv1 => ?_)
  refine g_ireturn dX9_status_4 ?_
  exact ⟨rfl, ev1⟩
set_option maxHeartbeats 4000000 in
set_option maxRecDepth 100000 in
theorem c_X9_spilt_x (X : Cx) (M : Mm) (hi : IC M) : Con X 10 yX9_spilt cX9_spilt 1 (some .int) [vr X 0] M (Qi (fun r M1 => M1 = M ∧ (r = M 0 11))) := by
  refine Con.ofG rfl (Nat.le_of_ble_eq_true rfl) ?_
  show G X 10 RX9 cX9_spilt 1 (some .int) (Qi (fun r M1 => M1 = M ∧ (r = M 0 11))) 0 [(0, vr X 0)] [] M
  refine g_aload_n (pc' := 1) 0 dX9_spilt_0 rfl rfl ?_
  refine g_getI (pc' := 4) dX9_spilt_1 rfl f_X9_162 rfl rfl (fun v1 ev1 rv1 => ?_)
  refine g_ireturn dX9_spilt_4 ?_
  exact ⟨rfl, ev1⟩
set_option maxHeartbeats 4000000 in
set_option maxRecDepth 100000 in
theorem c_X9_stopped_x (X : Cx) (M : Mm) (hi : IC M) : Con X 10 yX9_stopped cX9_stopped 1 (some .int) [vr X 0] M (Qi (fun r M1 => M1 = M ∧ (r = M 0 13))) := by
  refine Con.ofG rfl (Nat.le_of_ble_eq_true rfl) ?_
  show G X 10 RX9 cX9_stopped 1 (some .int) (Qi (fun r M1 => M1 = M ∧ (r = M 0 13))) 0 [(0, vr X 0)] [] M
  refine g_aload_n (pc' := 1) 0 dX9_stopped_0 rfl rfl ?_
  refine g_getI (pc' := 4) dX9_stopped_1 rfl f_X9_72 rfl rfl (fun v1 ev1 rv1 => ?_)
  refine g_ireturn dX9_stopped_4 ?_
  exact ⟨rfl, ev1⟩
set_option maxHeartbeats 4000000 in
set_option maxRecDepth 100000 in
theorem c_X10_count_x (X : Cx) (M : Mm) (hi : IM M) (a : Int) (ha : inI a) : Con X 12 yX10_count cX10_count 2 (some .int) [vr X 97, vi a] M (Qi (fun r M1 => IM M1 ∧ Fr (fun c => c = 97) M M1 ∧ M1 99 0 = M 99 0 ∧ M1 99 1 = M 99 1 ∧ M1 99 2 = M 99 2 ∧ M1 99 3 = M 99 3 ∧ M1 100 0 = M 100 0 ∧ M1 100 1 = M 100 1 ∧ M1 100 2 = M 100 2 ∧ M1 100 3 = M 100 3 ∧ M1 100 49 = M 100 49 ∧ M1 100 50 = M 100 50 ∧ M1 100 51 = M 100 51 ∧ M1 100 52 = M 100 52 ∧ M1 103 0 = M 103 0 ∧ M1 103 1 = M 103 1 ∧ M1 97 12 = M 97 12 ∧ M1 97 17 = M 97 17 ∧ M1 97 33 = M 97 33 ∧ M1 97 10 = M 97 10 ∧ M1 97 44 = M 97 44 ∧ M1 97 1 = M 97 1 ∧ ((a = 0 → r = M 99 0) ∧ (a = 1 → r = M 99 1) ∧ (a = 2 → r = M 99 2) ∧ (a = 3 → r = M 99 3) ∧ (a = 4 → r = M 97 12) ∧ (a = 5 → r = M 98 1) ∧ (a = 6 → r = M 98 2) ∧ (a = 7 → r = M 98 3) ∧ (a = 8 → r = M 98 5) ∧ (a = 9 → r = M 98 6) ∧ ((10 ≤ a ∧ a < 10 + M 99 1) → r = M 99 (a - 10 + 10).toNat) ∧ (¬ (0 ≤ a ∧ a < 10 + M 99 1) → r = -1)))) := by
  refine Con.ofG rfl (Nat.le_of_ble_eq_true rfl) ?_
  show G X 12 RX10 cX10_count 2 (some .int) (Qi (fun r M1 => IM M1 ∧ Fr (fun c => c = 97) M M1 ∧ M1 99 0 = M 99 0 ∧ M1 99 1 = M 99 1 ∧ M1 99 2 = M 99 2 ∧ M1 99 3 = M 99 3 ∧ M1 100 0 = M 100 0 ∧ M1 100 1 = M 100 1 ∧ M1 100 2 = M 100 2 ∧ M1 100 3 = M 100 3 ∧ M1 100 49 = M 100 49 ∧ M1 100 50 = M 100 50 ∧ M1 100 51 = M 100 51 ∧ M1 100 52 = M 100 52 ∧ M1 103 0 = M 103 0 ∧ M1 103 1 = M 103 1 ∧ M1 97 12 = M 97 12 ∧ M1 97 17 = M 97 17 ∧ M1 97 33 = M 97 33 ∧ M1 97 10 = M 97 10 ∧ M1 97 44 = M 97 44 ∧ M1 97 1 = M 97 1 ∧ ((a = 0 → r = M 99 0) ∧ (a = 1 → r = M 99 1) ∧ (a = 2 → r = M 99 2) ∧ (a = 3 → r = M 99 3) ∧ (a = 4 → r = M 97 12) ∧ (a = 5 → r = M 98 1) ∧ (a = 6 → r = M 98 2) ∧ (a = 7 → r = M 98 3) ∧ (a = 8 → r = M 98 5) ∧ (a = 9 → r = M 98 6) ∧ ((10 ≤ a ∧ a < 10 + M 99 1) → r = M 99 (a - 10 + 10).toNat) ∧ (¬ (0 ≤ a ∧ a < 10 + M 99 1) → r = -1)))) 0 [(0, vr X 97), (1, vi a)] [] M
  have p0 := hi.1.1
  have p1 := hi.1.2.1
  have p2 := hi.1.2.2.1
  have p3 := hi.1.2.2.2.1
  have p12 := hi.2.2.2.1
  refine g_aload_n (pc' := 1) 0 dX10_count_0 rfl rfl ?_
  refine g_iconst (pc' := 2) dX10_count_1 rfl ?_
  refine g_putI (pc' := 5) dX10_count_2 rfl p_X10_77 rfl rfl (by decide) (fun M1 hM1 => ?_)
  have iM1 : IM M1 := IM.wr hi hM1 (by unfold okv; first | decide | omega)
  have fM1 : Fr (fun c => c = 97) M M1 := Fr.wr Fr.rf hM1 (by first | decide | omega | (dsimp only; omega))
  have q99_0_M1 : (M1 99 0 = M 99 0) := (show M1 99 0 = M 99 0 by rw [hM1]; exact mu_ne _ _ (by first | decide | omega))
  have q99_1_M1 : (M1 99 1 = M 99 1) := (show M1 99 1 = M 99 1 by rw [hM1]; exact mu_ne _ _ (by first | decide | omega))
  have q99_2_M1 : (M1 99 2 = M 99 2) := (show M1 99 2 = M 99 2 by rw [hM1]; exact mu_ne _ _ (by first | decide | omega))
  have q99_3_M1 : (M1 99 3 = M 99 3) := (show M1 99 3 = M 99 3 by rw [hM1]; exact mu_ne _ _ (by first | decide | omega))
  have q100_0_M1 : id (M1 100 0 = M 100 0) := (show M1 100 0 = M 100 0 by rw [hM1]; exact mu_ne _ _ (by first | decide | omega))
  have q100_1_M1 : id (M1 100 1 = M 100 1) := (show M1 100 1 = M 100 1 by rw [hM1]; exact mu_ne _ _ (by first | decide | omega))
  have q100_2_M1 : id (M1 100 2 = M 100 2) := (show M1 100 2 = M 100 2 by rw [hM1]; exact mu_ne _ _ (by first | decide | omega))
  have q100_3_M1 : id (M1 100 3 = M 100 3) := (show M1 100 3 = M 100 3 by rw [hM1]; exact mu_ne _ _ (by first | decide | omega))
  have q100_49_M1 : id (M1 100 49 = M 100 49) := (show M1 100 49 = M 100 49 by rw [hM1]; exact mu_ne _ _ (by first | decide | omega))
  have q100_50_M1 : id (M1 100 50 = M 100 50) := (show M1 100 50 = M 100 50 by rw [hM1]; exact mu_ne _ _ (by first | decide | omega))
  have q100_51_M1 : id (M1 100 51 = M 100 51) := (show M1 100 51 = M 100 51 by rw [hM1]; exact mu_ne _ _ (by first | decide | omega))
  have q100_52_M1 : id (M1 100 52 = M 100 52) := (show M1 100 52 = M 100 52 by rw [hM1]; exact mu_ne _ _ (by first | decide | omega))
  have q103_0_M1 : id (M1 103 0 = M 103 0) := (show M1 103 0 = M 103 0 by rw [hM1]; exact mu_ne _ _ (by first | decide | omega))
  have q103_1_M1 : id (M1 103 1 = M 103 1) := (show M1 103 1 = M 103 1 by rw [hM1]; exact mu_ne _ _ (by first | decide | omega))
  have q97_12_M1 : (M1 97 12 = M 97 12) := (show M1 97 12 = M 97 12 by rw [hM1]; exact mu_ne _ _ (by first | decide | omega))
  have q97_17_M1 : (M1 97 17 = M 97 17) := (show M1 97 17 = M 97 17 by rw [hM1]; exact mu_ne _ _ (by first | decide | omega))
  have q97_33_M1 : (M1 97 33 = M 97 33) := (show M1 97 33 = M 97 33 by rw [hM1]; exact mu_ne _ _ (by first | decide | omega))
  have q97_10_M1 : (M1 97 10 = M 97 10) := (show M1 97 10 = M 97 10 by rw [hM1]; exact mu_ne _ _ (by first | decide | omega))
  have q97_44_M1 : (M1 97 44 = M 97 44) := (show M1 97 44 = M 97 44 by rw [hM1]; exact mu_ne _ _ (by first | decide | omega))
  have q97_1_M1 : (M1 97 1 = M 97 1) := (show M1 97 1 = M 97 1 by rw [hM1]; exact mu_ne _ _ (by first | decide | omega))
  have xM1_97_0 : M1 97 0 = 0 := by rw [hM1]; exact mu_at _ _ _ _
  have c98M1 : M1 98 = M 98 := by rw [hM1]; exact mu_cell _ _ (by decide)
  have c99M1 : M1 99 = M 99 := by rw [hM1]; exact mu_cell _ _ (by decide)
  refine g_iload_n (pc' := 6) 1 dX10_count_5 rfl rfl ?_
  by_cases c2 : a = 0
  · refine g_tabIn (tgt := 60) (off := 54) ha dX10_count_6 (by omega) (by omega) (by rw [c2]; rfl) rfl ?_
    refine g_aload_n (pc' := 61) 0 dX10_count_60 rfl rfl ?_
    refine g_getR (pc' := 64) dX10_count_61 rfl f_X10_13 rfl rfl ?_
    refine g_iconst (pc' := 65) dX10_count_64 rfl ?_
    refine g_iald (pc' := 66) dX10_count_65 rfl rfl (by decide) (by decide) (fun v3 ev3 rv3 => ?_)
    have ev3 : v3 = M1 99 0 := ev3
    have bv3 : 0 ≤ v3 ∧ v3 ≤ 6 := by rw [ev3]; exact iM1.1.1
    have av3 : v3 = M 99 0 := ev3.trans q99_0_M1
    have mv3 : v3 = M 99 0 := ev3.trans (congrFun c99M1 _)
    refine g_ireturn dX10_count_66 ?_
    exact ⟨iM1, fM1, q99_0_M1, q99_1_M1, q99_2_M1, q99_3_M1, q100_0_M1, q100_1_M1, q100_2_M1, q100_3_M1, q100_49_M1, q100_50_M1, q100_51_M1, q100_52_M1, q103_0_M1, q103_1_M1, q97_12_M1, q97_17_M1, q97_33_M1, q97_10_M1, q97_44_M1, q97_1_M1, by first | omega | (refine ⟨fun q => by omega, fun q => by omega, fun q => by omega, fun q => by omega, fun q => by omega, fun q => by omega, fun q => by omega, fun q => by omega, fun q => by omega, fun q => by omega, fun q => by first | omega | (rw [show (a - 10 + 10).toNat = (10 + a - 10).toNat by omega]; omega), fun q => by omega⟩)⟩
  by_cases c4 : a = 1
  · refine g_tabIn (tgt := 67) (off := 61) ha dX10_count_6 (by omega) (by omega) (by rw [c4]; rfl) rfl ?_
    refine g_aload_n (pc' := 68) 0 dX10_count_67 rfl rfl ?_
    refine g_getR (pc' := 71) dX10_count_68 rfl f_X10_13 rfl rfl ?_
    refine g_iconst (pc' := 72) dX10_count_71 rfl ?_
    refine g_iald (pc' := 73) dX10_count_72 rfl rfl (by decide) (by decide) (fun v5 ev5 rv5 => ?_)
    have ev5 : v5 = M1 99 1 := ev5
    have bv5 : 0 ≤ v5 ∧ v5 ≤ 3 := by rw [ev5]; exact iM1.1.2.1
    have av5 : v5 = M 99 1 := ev5.trans q99_1_M1
    have mv5 : v5 = M 99 1 := ev5.trans (congrFun c99M1 _)
    refine g_ireturn dX10_count_73 ?_
    exact ⟨iM1, fM1, q99_0_M1, q99_1_M1, q99_2_M1, q99_3_M1, q100_0_M1, q100_1_M1, q100_2_M1, q100_3_M1, q100_49_M1, q100_50_M1, q100_51_M1, q100_52_M1, q103_0_M1, q103_1_M1, q97_12_M1, q97_17_M1, q97_33_M1, q97_10_M1, q97_44_M1, q97_1_M1, by first | omega | (refine ⟨fun q => by omega, fun q => by omega, fun q => by omega, fun q => by omega, fun q => by omega, fun q => by omega, fun q => by omega, fun q => by omega, fun q => by omega, fun q => by omega, fun q => by first | omega | (rw [show (a - 10 + 10).toNat = (10 + a - 10).toNat by omega]; omega), fun q => by omega⟩)⟩
  by_cases c6 : a = 2
  · refine g_tabIn (tgt := 74) (off := 68) ha dX10_count_6 (by omega) (by omega) (by rw [c6]; rfl) rfl ?_
    refine g_aload_n (pc' := 75) 0 dX10_count_74 rfl rfl ?_
    refine g_getR (pc' := 78) dX10_count_75 rfl f_X10_13 rfl rfl ?_
    refine g_iconst (pc' := 79) dX10_count_78 rfl ?_
    refine g_iald (pc' := 80) dX10_count_79 rfl rfl (by decide) (by decide) (fun v7 ev7 rv7 => ?_)
    have ev7 : v7 = M1 99 2 := ev7
    have bv7 : 0 ≤ v7 ∧ v7 ≤ 6 := by rw [ev7]; exact iM1.1.2.2.1
    have av7 : v7 = M 99 2 := ev7.trans q99_2_M1
    have mv7 : v7 = M 99 2 := ev7.trans (congrFun c99M1 _)
    refine g_ireturn dX10_count_80 ?_
    exact ⟨iM1, fM1, q99_0_M1, q99_1_M1, q99_2_M1, q99_3_M1, q100_0_M1, q100_1_M1, q100_2_M1, q100_3_M1, q100_49_M1, q100_50_M1, q100_51_M1, q100_52_M1, q103_0_M1, q103_1_M1, q97_12_M1, q97_17_M1, q97_33_M1, q97_10_M1, q97_44_M1, q97_1_M1, by first | omega | (refine ⟨fun q => by omega, fun q => by omega, fun q => by omega, fun q => by omega, fun q => by omega, fun q => by omega, fun q => by omega, fun q => by omega, fun q => by omega, fun q => by omega, fun q => by first | omega | (rw [show (a - 10 + 10).toNat = (10 + a - 10).toNat by omega]; omega), fun q => by omega⟩)⟩
  by_cases c8 : a = 3
  · refine g_tabIn (tgt := 81) (off := 75) ha dX10_count_6 (by omega) (by omega) (by rw [c8]; rfl) rfl ?_
    refine g_aload_n (pc' := 82) 0 dX10_count_81 rfl rfl ?_
    refine g_getR (pc' := 85) dX10_count_82 rfl f_X10_13 rfl rfl ?_
    refine g_iconst (pc' := 86) dX10_count_85 rfl ?_
    refine g_iald (pc' := 87) dX10_count_86 rfl rfl (by decide) (by decide) (fun v9 ev9 rv9 => ?_)
    have ev9 : v9 = M1 99 3 := ev9
    have bv9 : 0 ≤ v9 ∧ v9 ≤ 6 := by rw [ev9]; exact iM1.1.2.2.2.1
    have av9 : v9 = M 99 3 := ev9.trans q99_3_M1
    have mv9 : v9 = M 99 3 := ev9.trans (congrFun c99M1 _)
    refine g_ireturn dX10_count_87 ?_
    exact ⟨iM1, fM1, q99_0_M1, q99_1_M1, q99_2_M1, q99_3_M1, q100_0_M1, q100_1_M1, q100_2_M1, q100_3_M1, q100_49_M1, q100_50_M1, q100_51_M1, q100_52_M1, q103_0_M1, q103_1_M1, q97_12_M1, q97_17_M1, q97_33_M1, q97_10_M1, q97_44_M1, q97_1_M1, by first | omega | (refine ⟨fun q => by omega, fun q => by omega, fun q => by omega, fun q => by omega, fun q => by omega, fun q => by omega, fun q => by omega, fun q => by omega, fun q => by omega, fun q => by omega, fun q => by first | omega | (rw [show (a - 10 + 10).toNat = (10 + a - 10).toNat by omega]; omega), fun q => by omega⟩)⟩
  by_cases c10 : a = 4
  · refine g_tabIn (tgt := 88) (off := 82) ha dX10_count_6 (by omega) (by omega) (by rw [c10]; rfl) rfl ?_
    refine g_aload_n (pc' := 89) 0 dX10_count_88 rfl rfl ?_
    refine g_getI (pc' := 92) dX10_count_89 rfl f_X10_142 rfl rfl (fun v11 ev11 rv11 => ?_)
    have bv11 : 0 ≤ v11 ∧ v11 ≤ 400 := by rw [ev11]; exact iM1.2.2.2.1
    have av11 : v11 = M 97 12 := ev11.trans q97_12_M1
    refine g_ireturn dX10_count_92 ?_
    exact ⟨iM1, fM1, q99_0_M1, q99_1_M1, q99_2_M1, q99_3_M1, q100_0_M1, q100_1_M1, q100_2_M1, q100_3_M1, q100_49_M1, q100_50_M1, q100_51_M1, q100_52_M1, q103_0_M1, q103_1_M1, q97_12_M1, q97_17_M1, q97_33_M1, q97_10_M1, q97_44_M1, q97_1_M1, by first | omega | (refine ⟨fun q => by omega, fun q => by omega, fun q => by omega, fun q => by omega, fun q => by omega, fun q => by omega, fun q => by omega, fun q => by omega, fun q => by omega, fun q => by omega, fun q => by first | omega | (rw [show (a - 10 + 10).toNat = (10 + a - 10).toNat by omega]; omega), fun q => by omega⟩)⟩
  by_cases c12 : a = 5
  · refine g_tabIn (tgt := 93) (off := 87) ha dX10_count_6 (by omega) (by omega) (by rw [c12]; rfl) rfl ?_
    refine g_aload_n (pc' := 94) 0 dX10_count_93 rfl rfl ?_
    refine g_getR (pc' := 97) dX10_count_94 rfl f_X10_7 rfl rfl ?_
    refine g_iconst (pc' := 98) dX10_count_97 rfl ?_
    refine g_iald (pc' := 99) dX10_count_98 rfl rfl (by decide) (by decide) (fun v13 ev13 rv13 => ?_)
    have ev13 : v13 = M1 98 1 := ev13
    have mv13 : v13 = M 98 1 := ev13.trans (congrFun c98M1 _)
    refine g_ireturn dX10_count_99 ?_
    exact ⟨iM1, fM1, q99_0_M1, q99_1_M1, q99_2_M1, q99_3_M1, q100_0_M1, q100_1_M1, q100_2_M1, q100_3_M1, q100_49_M1, q100_50_M1, q100_51_M1, q100_52_M1, q103_0_M1, q103_1_M1, q97_12_M1, q97_17_M1, q97_33_M1, q97_10_M1, q97_44_M1, q97_1_M1, by first | omega | (refine ⟨fun q => by omega, fun q => by omega, fun q => by omega, fun q => by omega, fun q => by omega, fun q => by omega, fun q => by omega, fun q => by omega, fun q => by omega, fun q => by omega, fun q => by first | omega | (rw [show (a - 10 + 10).toNat = (10 + a - 10).toNat by omega]; omega), fun q => by omega⟩)⟩
  by_cases c14 : a = 6
  · refine g_tabIn (tgt := 100) (off := 94) ha dX10_count_6 (by omega) (by omega) (by rw [c14]; rfl) rfl ?_
    refine g_aload_n (pc' := 101) 0 dX10_count_100 rfl rfl ?_
    refine g_getR (pc' := 104) dX10_count_101 rfl f_X10_7 rfl rfl ?_
    refine g_iconst (pc' := 105) dX10_count_104 rfl ?_
    refine g_iald (pc' := 106) dX10_count_105 rfl rfl (by decide) (by decide) (fun v15 ev15 rv15 => ?_)
    have ev15 : v15 = M1 98 2 := ev15
    have mv15 : v15 = M 98 2 := ev15.trans (congrFun c98M1 _)
    refine g_ireturn dX10_count_106 ?_
    exact ⟨iM1, fM1, q99_0_M1, q99_1_M1, q99_2_M1, q99_3_M1, q100_0_M1, q100_1_M1, q100_2_M1, q100_3_M1, q100_49_M1, q100_50_M1, q100_51_M1, q100_52_M1, q103_0_M1, q103_1_M1, q97_12_M1, q97_17_M1, q97_33_M1, q97_10_M1, q97_44_M1, q97_1_M1, by first | omega | (refine ⟨fun q => by omega, fun q => by omega, fun q => by omega, fun q => by omega, fun q => by omega, fun q => by omega, fun q => by omega, fun q => by omega, fun q => by omega, fun q => by omega, fun q => by first | omega | (rw [show (a - 10 + 10).toNat = (10 + a - 10).toNat by omega]; omega), fun q => by omega⟩)⟩
  by_cases c16 : a = 7
  · refine g_tabIn (tgt := 107) (off := 101) ha dX10_count_6 (by omega) (by omega) (by rw [c16]; rfl) rfl ?_
    refine g_aload_n (pc' := 108) 0 dX10_count_107 rfl rfl ?_
    refine g_getR (pc' := 111) dX10_count_108 rfl f_X10_7 rfl rfl ?_
    refine g_iconst (pc' := 112) dX10_count_111 rfl ?_
    refine g_iald (pc' := 113) dX10_count_112 rfl rfl (by decide) (by decide) (fun v17 ev17 rv17 => ?_)
    have ev17 : v17 = M1 98 3 := ev17
    have mv17 : v17 = M 98 3 := ev17.trans (congrFun c98M1 _)
    refine g_ireturn dX10_count_113 ?_
    exact ⟨iM1, fM1, q99_0_M1, q99_1_M1, q99_2_M1, q99_3_M1, q100_0_M1, q100_1_M1, q100_2_M1, q100_3_M1, q100_49_M1, q100_50_M1, q100_51_M1, q100_52_M1, q103_0_M1, q103_1_M1, q97_12_M1, q97_17_M1, q97_33_M1, q97_10_M1, q97_44_M1, q97_1_M1, by first | omega | (refine ⟨fun q => by omega, fun q => by omega, fun q => by omega, fun q => by omega, fun q => by omega, fun q => by omega, fun q => by omega, fun q => by omega, fun q => by omega, fun q => by omega, fun q => by first | omega | (rw [show (a - 10 + 10).toNat = (10 + a - 10).toNat by omega]; omega), fun q => by omega⟩)⟩
  by_cases c18 : a = 8
  · refine g_tabIn (tgt := 114) (off := 108) ha dX10_count_6 (by omega) (by omega) (by rw [c18]; rfl) rfl ?_
    refine g_aload_n (pc' := 115) 0 dX10_count_114 rfl rfl ?_
    refine g_getR (pc' := 118) dX10_count_115 rfl f_X10_7 rfl rfl ?_
    refine g_iconst (pc' := 119) dX10_count_118 rfl ?_
    refine g_iald (pc' := 120) dX10_count_119 rfl rfl (by decide) (by decide) (fun v19 ev19 rv19 => ?_)
    have ev19 : v19 = M1 98 5 := ev19
    have mv19 : v19 = M 98 5 := ev19.trans (congrFun c98M1 _)
    refine g_ireturn dX10_count_120 ?_
    exact ⟨iM1, fM1, q99_0_M1, q99_1_M1, q99_2_M1, q99_3_M1, q100_0_M1, q100_1_M1, q100_2_M1, q100_3_M1, q100_49_M1, q100_50_M1, q100_51_M1, q100_52_M1, q103_0_M1, q103_1_M1, q97_12_M1, q97_17_M1, q97_33_M1, q97_10_M1, q97_44_M1, q97_1_M1, by first | omega | (refine ⟨fun q => by omega, fun q => by omega, fun q => by omega, fun q => by omega, fun q => by omega, fun q => by omega, fun q => by omega, fun q => by omega, fun q => by omega, fun q => by omega, fun q => by first | omega | (rw [show (a - 10 + 10).toNat = (10 + a - 10).toNat by omega]; omega), fun q => by omega⟩)⟩
  by_cases c20 : a = 9
  · refine g_tabIn (tgt := 121) (off := 115) ha dX10_count_6 (by omega) (by omega) (by rw [c20]; rfl) rfl ?_
    refine g_aload_n (pc' := 122) 0 dX10_count_121 rfl rfl ?_
    refine g_getR (pc' := 125) dX10_count_122 rfl f_X10_7 rfl rfl ?_
    refine g_bipush (pc' := 127) (v := 6) dX10_count_125 rfl (by decide) ?_
    refine g_iald (pc' := 128) dX10_count_127 rfl rfl (by decide) (by decide) (fun v21 ev21 rv21 => ?_)
    have ev21 : v21 = M1 98 6 := ev21
    have mv21 : v21 = M 98 6 := ev21.trans (congrFun c98M1 _)
    refine g_ireturn dX10_count_128 ?_
    exact ⟨iM1, fM1, q99_0_M1, q99_1_M1, q99_2_M1, q99_3_M1, q100_0_M1, q100_1_M1, q100_2_M1, q100_3_M1, q100_49_M1, q100_50_M1, q100_51_M1, q100_52_M1, q103_0_M1, q103_1_M1, q97_12_M1, q97_17_M1, q97_33_M1, q97_10_M1, q97_44_M1, q97_1_M1, by first | omega | (refine ⟨fun q => by omega, fun q => by omega, fun q => by omega, fun q => by omega, fun q => by omega, fun q => by omega, fun q => by omega, fun q => by omega, fun q => by omega, fun q => by omega, fun q => by first | omega | (rw [show (a - 10 + 10).toNat = (10 + a - 10).toNat by omega]; omega), fun q => by omega⟩)⟩
  refine g_tabOut (tgt := 129) ha dX10_count_6 (by omega) rfl ?_
  refine g_iload_n (pc' := 130) 1 dX10_count_129 rfl rfl ?_
  refine g_i2l (pc' := 131) ha dX10_count_130 rfl ?_
  refine g_ldc2 (pc' := 134) (v := 10) dX10_count_131 rfl k_X10_183 ?_
  refine g_ldc2 (pc' := 137) (v := 12) dX10_count_134 rfl k_X10_414 ?_
  refine g_callSip (pc' := 140) (As := [vl a, vl 10, vl 12]) (S := []) dX10_count_137 rfl m_X10_83 w_X10_in (c_X10_in X M1 a ⟨by omega, by omega⟩ 10 (by decide) 12 (by decide)) rfl (by decide) (by decide) rfl (Nat.le_of_ble_eq_true rfl) (fun z24 q23 => ?_)
  refine g_if_eq (pc' := 143) (tgt := 171) ⟨by omega, by omega⟩ dX10_count_140 rfl rfl (fun c25 => ?_) (fun c25 => ?_)
  · replace q23 := q23.resolve_left (fun h => absurd (c25.symm.trans h.1) (by decide))
    refine g_iconst (pc' := 172) dX10_count_171 rfl ?_
    refine g_ireturn dX10_count_172 ?_
    exact ⟨iM1, fM1, q99_0_M1, q99_1_M1, q99_2_M1, q99_3_M1, q100_0_M1, q100_1_M1, q100_2_M1, q100_3_M1, q100_49_M1, q100_50_M1, q100_51_M1, q100_52_M1, q103_0_M1, q103_1_M1, q97_12_M1, q97_17_M1, q97_33_M1, q97_10_M1, q97_44_M1, q97_1_M1, by first | omega | (refine ⟨fun q => by omega, fun q => by omega, fun q => by omega, fun q => by omega, fun q => by omega, fun q => by omega, fun q => by omega, fun q => by omega, fun q => by omega, fun q => by omega, fun q => by first | omega | (rw [show (a - 10 + 10).toNat = (10 + a - 10).toNat by omega]; omega), fun q => by omega⟩)⟩
  · replace q23 := q23.resolve_right (fun h => c25 h.1)
    refine g_iload_n (pc' := 144) 1 dX10_count_143 rfl rfl ?_
    refine g_bipush (pc' := 146) (v := 10) dX10_count_144 rfl (by decide) ?_
    refine g_isub (pc' := 147) dX10_count_146 rfl ?_
    refine g_aload_n (pc' := 148) 0 dX10_count_147 rfl rfl ?_
    refine g_getR (pc' := 151) dX10_count_148 rfl f_X10_13 rfl rfl ?_
    refine g_iconst (pc' := 152) dX10_count_151 rfl ?_
    refine g_iald (pc' := 153) dX10_count_152 rfl rfl (by decide) (by decide) (fun v26 ev26 rv26 => ?_)
    have ev26 : v26 = M1 99 1 := ev26
    have bv26 : 0 ≤ v26 ∧ v26 ≤ 3 := by rw [ev26]; exact iM1.1.2.1
    have av26 : v26 = M 99 1 := ev26.trans q99_1_M1
    have mv26 : v26 = M 99 1 := ev26.trans (congrFun c99M1 _)
    refine g_ic_ge (pc' := 156) (tgt := 171) ⟨by omega, by omega⟩ rv26 dX10_count_153 rfl rfl (fun c27 => ?_) (fun c27 => ?_)
    · refine g_iconst (pc' := 172) dX10_count_171 rfl ?_
      refine g_ireturn dX10_count_172 ?_
      exact ⟨iM1, fM1, q99_0_M1, q99_1_M1, q99_2_M1, q99_3_M1, q100_0_M1, q100_1_M1, q100_2_M1, q100_3_M1, q100_49_M1, q100_50_M1, q100_51_M1, q100_52_M1, q103_0_M1, q103_1_M1, q97_12_M1, q97_17_M1, q97_33_M1, q97_10_M1, q97_44_M1, q97_1_M1, by first | omega | (refine ⟨fun q => by omega, fun q => by omega, fun q => by omega, fun q => by omega, fun q => by omega, fun q => by omega, fun q => by omega, fun q => by omega, fun q => by omega, fun q => by omega, fun q => by first | omega | (rw [show (a - 10 + 10).toNat = (10 + a - 10).toNat by omega]; omega), fun q => by omega⟩)⟩
    · refine g_aload_n (pc' := 157) 0 dX10_count_156 rfl rfl ?_
      refine g_getR (pc' := 160) dX10_count_157 rfl f_X10_13 rfl rfl ?_
      refine g_bipush (pc' := 162) (v := 10) dX10_count_160 rfl (by decide) ?_
      refine g_iload_n (pc' := 163) 1 dX10_count_162 rfl rfl ?_
      refine g_iadd (pc' := 164) dX10_count_163 rfl ?_
      refine g_bipush (pc' := 166) (v := 10) dX10_count_164 rfl (by decide) ?_
      refine g_isub (pc' := 167) dX10_count_166 rfl ?_
      refine g_iald (pc' := 168) dX10_count_167 rfl rfl (by omega) (by omega) (fun v28 ev28 rv28 => ?_)
      have mv28 : v28 = M 99 ((10 + a) - 10).toNat := ev28.trans (congrFun c99M1 _)
      refine g_goto (tgt := 172) dX10_count_168 rfl ?_
      refine g_ireturn dX10_count_172 ?_
      exact ⟨iM1, fM1, q99_0_M1, q99_1_M1, q99_2_M1, q99_3_M1, q100_0_M1, q100_1_M1, q100_2_M1, q100_3_M1, q100_49_M1, q100_50_M1, q100_51_M1, q100_52_M1, q103_0_M1, q103_1_M1, q97_12_M1, q97_17_M1, q97_33_M1, q97_10_M1, q97_44_M1, q97_1_M1, by first | omega | (refine ⟨fun q => by omega, fun q => by omega, fun q => by omega, fun q => by omega, fun q => by omega, fun q => by omega, fun q => by omega, fun q => by omega, fun q => by omega, fun q => by omega, fun q => by first | omega | (rw [show (a - 10 + 10).toNat = (10 + a - 10).toNat by omega]; omega), fun q => by omega⟩)⟩
set_option maxHeartbeats 4000000 in
set_option maxRecDepth 100000 in
theorem c_X10_status_x (X : Cx) (M : Mm) (hi : IM M) : Con X 12 yX10_status cX10_status 1 (some .int) [vr X 97] M (Qi (fun r M1 => IM M1 ∧ Fr (fun c => c = 97) M M1 ∧ M1 99 0 = M 99 0 ∧ M1 99 1 = M 99 1 ∧ M1 99 2 = M 99 2 ∧ M1 99 3 = M 99 3 ∧ M1 100 0 = M 100 0 ∧ M1 100 1 = M 100 1 ∧ M1 100 2 = M 100 2 ∧ M1 100 3 = M 100 3 ∧ M1 100 49 = M 100 49 ∧ M1 100 50 = M 100 50 ∧ M1 100 51 = M 100 51 ∧ M1 100 52 = M 100 52 ∧ M1 103 0 = M 103 0 ∧ M1 103 1 = M 103 1 ∧ M1 97 12 = M 97 12 ∧ M1 97 17 = M 97 17 ∧ M1 97 33 = M 97 33 ∧ M1 97 10 = M 97 10 ∧ M1 97 44 = M 97 44 ∧ M1 97 1 = M 97 1 ∧ (r = M 97 1))) := by
  refine Con.ofG rfl (Nat.le_of_ble_eq_true rfl) ?_
  show G X 12 RX10 cX10_status 1 (some .int) (Qi (fun r M1 => IM M1 ∧ Fr (fun c => c = 97) M M1 ∧ M1 99 0 = M 99 0 ∧ M1 99 1 = M 99 1 ∧ M1 99 2 = M 99 2 ∧ M1 99 3 = M 99 3 ∧ M1 100 0 = M 100 0 ∧ M1 100 1 = M 100 1 ∧ M1 100 2 = M 100 2 ∧ M1 100 3 = M 100 3 ∧ M1 100 49 = M 100 49 ∧ M1 100 50 = M 100 50 ∧ M1 100 51 = M 100 51 ∧ M1 100 52 = M 100 52 ∧ M1 103 0 = M 103 0 ∧ M1 103 1 = M 103 1 ∧ M1 97 12 = M 97 12 ∧ M1 97 17 = M 97 17 ∧ M1 97 33 = M 97 33 ∧ M1 97 10 = M 97 10 ∧ M1 97 44 = M 97 44 ∧ M1 97 1 = M 97 1 ∧ (r = M 97 1))) 0 [(0, vr X 97)] [] M
  have p0 := hi.1.1
  have p1 := hi.1.2.1
  have p2 := hi.1.2.2.1
  have p3 := hi.1.2.2.2.1
  have p12 := hi.2.2.2.1
  refine g_aload_n (pc' := 1) 0 dX10_status_0 rfl rfl ?_
  refine g_iconst (pc' := 2) dX10_status_1 rfl ?_
  refine g_putI (pc' := 5) dX10_status_2 rfl p_X10_77 rfl rfl (by decide) (fun M1 hM1 => ?_)
  have iM1 : IM M1 := IM.wr hi hM1 (by unfold okv; first | decide | omega)
  have fM1 : Fr (fun c => c = 97) M M1 := Fr.wr Fr.rf hM1 (by first | decide | omega | (dsimp only; omega))
  have q99_0_M1 : (M1 99 0 = M 99 0) := (show M1 99 0 = M 99 0 by rw [hM1]; exact mu_ne _ _ (by first | decide | omega))
  have q99_1_M1 : (M1 99 1 = M 99 1) := (show M1 99 1 = M 99 1 by rw [hM1]; exact mu_ne _ _ (by first | decide | omega))
  have q99_2_M1 : (M1 99 2 = M 99 2) := (show M1 99 2 = M 99 2 by rw [hM1]; exact mu_ne _ _ (by first | decide | omega))
  have q99_3_M1 : (M1 99 3 = M 99 3) := (show M1 99 3 = M 99 3 by rw [hM1]; exact mu_ne _ _ (by first | decide | omega))
  have q100_0_M1 : id (M1 100 0 = M 100 0) := (show M1 100 0 = M 100 0 by rw [hM1]; exact mu_ne _ _ (by first | decide | omega))
  have q100_1_M1 : id (M1 100 1 = M 100 1) := (show M1 100 1 = M 100 1 by rw [hM1]; exact mu_ne _ _ (by first | decide | omega))
  have q100_2_M1 : id (M1 100 2 = M 100 2) := (show M1 100 2 = M 100 2 by rw [hM1]; exact mu_ne _ _ (by first | decide | omega))
  have q100_3_M1 : id (M1 100 3 = M 100 3) := (show M1 100 3 = M 100 3 by rw [hM1]; exact mu_ne _ _ (by first | decide | omega))
  have q100_49_M1 : id (M1 100 49 = M 100 49) := (show M1 100 49 = M 100 49 by rw [hM1]; exact mu_ne _ _ (by first | decide | omega))
  have q100_50_M1 : id (M1 100 50 = M 100 50) := (show M1 100 50 = M 100 50 by rw [hM1]; exact mu_ne _ _ (by first | decide | omega))
  have q100_51_M1 : id (M1 100 51 = M 100 51) := (show M1 100 51 = M 100 51 by rw [hM1]; exact mu_ne _ _ (by first | decide | omega))
  have q100_52_M1 : id (M1 100 52 = M 100 52) := (show M1 100 52 = M 100 52 by rw [hM1]; exact mu_ne _ _ (by first | decide | omega))
  have q103_0_M1 : id (M1 103 0 = M 103 0) := (show M1 103 0 = M 103 0 by rw [hM1]; exact mu_ne _ _ (by first | decide | omega))
  have q103_1_M1 : id (M1 103 1 = M 103 1) := (show M1 103 1 = M 103 1 by rw [hM1]; exact mu_ne _ _ (by first | decide | omega))
  have q97_12_M1 : (M1 97 12 = M 97 12) := (show M1 97 12 = M 97 12 by rw [hM1]; exact mu_ne _ _ (by first | decide | omega))
  have q97_17_M1 : (M1 97 17 = M 97 17) := (show M1 97 17 = M 97 17 by rw [hM1]; exact mu_ne _ _ (by first | decide | omega))
  have q97_33_M1 : (M1 97 33 = M 97 33) := (show M1 97 33 = M 97 33 by rw [hM1]; exact mu_ne _ _ (by first | decide | omega))
  have q97_10_M1 : (M1 97 10 = M 97 10) := (show M1 97 10 = M 97 10 by rw [hM1]; exact mu_ne _ _ (by first | decide | omega))
  have q97_44_M1 : (M1 97 44 = M 97 44) := (show M1 97 44 = M 97 44 by rw [hM1]; exact mu_ne _ _ (by first | decide | omega))
  have q97_1_M1 : (M1 97 1 = M 97 1) := (show M1 97 1 = M 97 1 by rw [hM1]; exact mu_ne _ _ (by first | decide | omega))
  have wM1_97_1 : M1 97 1 = M 97 1 := by rw [hM1]; exact mu_ne _ _ (by first | decide | omega)
  have xM1_97_0 : M1 97 0 = 0 := by rw [hM1]; exact mu_at _ _ _ _
  refine g_aload_n (pc' := 6) 0 dX10_status_5 rfl rfl ?_
  refine g_getI (pc' := 9) dX10_status_6 rfl f_X10_80 rfl rfl (fun v2 ev2 rv2 => ?_)
  have av2 : v2 = M 97 1 := ev2.trans q97_1_M1
  refine g_ireturn dX10_status_9 ?_
  exact ⟨iM1, fM1, q99_0_M1, q99_1_M1, q99_2_M1, q99_3_M1, q100_0_M1, q100_1_M1, q100_2_M1, q100_3_M1, q100_49_M1, q100_50_M1, q100_51_M1, q100_52_M1, q103_0_M1, q103_1_M1, q97_12_M1, q97_17_M1, q97_33_M1, q97_10_M1, q97_44_M1, q97_1_M1, by omega⟩
set_option maxHeartbeats 4000000 in
set_option maxRecDepth 100000 in
theorem c_X10_spilt_x (X : Cx) (M : Mm) (hi : IM M) : Con X 12 yX10_spilt cX10_spilt 1 (some .int) [vr X 97] M (Qi (fun r M1 => IM M1 ∧ Fr (fun c => c = 97) M M1 ∧ M1 99 0 = M 99 0 ∧ M1 99 1 = M 99 1 ∧ M1 99 2 = M 99 2 ∧ M1 99 3 = M 99 3 ∧ M1 100 0 = M 100 0 ∧ M1 100 1 = M 100 1 ∧ M1 100 2 = M 100 2 ∧ M1 100 3 = M 100 3 ∧ M1 100 49 = M 100 49 ∧ M1 100 50 = M 100 50 ∧ M1 100 51 = M 100 51 ∧ M1 100 52 = M 100 52 ∧ M1 103 0 = M 103 0 ∧ M1 103 1 = M 103 1 ∧ M1 97 12 = M 97 12 ∧ M1 97 17 = M 97 17 ∧ M1 97 33 = M 97 33 ∧ M1 97 10 = M 97 10 ∧ M1 97 44 = M 97 44 ∧ M1 97 1 = M 97 1 ∧ (r = M 97 10))) := by
  refine Con.ofG rfl (Nat.le_of_ble_eq_true rfl) ?_
  show G X 12 RX10 cX10_spilt 1 (some .int) (Qi (fun r M1 => IM M1 ∧ Fr (fun c => c = 97) M M1 ∧ M1 99 0 = M 99 0 ∧ M1 99 1 = M 99 1 ∧ M1 99 2 = M 99 2 ∧ M1 99 3 = M 99 3 ∧ M1 100 0 = M 100 0 ∧ M1 100 1 = M 100 1 ∧ M1 100 2 = M 100 2 ∧ M1 100 3 = M 100 3 ∧ M1 100 49 = M 100 49 ∧ M1 100 50 = M 100 50 ∧ M1 100 51 = M 100 51 ∧ M1 100 52 = M 100 52 ∧ M1 103 0 = M 103 0 ∧ M1 103 1 = M 103 1 ∧ M1 97 12 = M 97 12 ∧ M1 97 17 = M 97 17 ∧ M1 97 33 = M 97 33 ∧ M1 97 10 = M 97 10 ∧ M1 97 44 = M 97 44 ∧ M1 97 1 = M 97 1 ∧ (r = M 97 10))) 0 [(0, vr X 97)] [] M
  have p0 := hi.1.1
  have p1 := hi.1.2.1
  have p2 := hi.1.2.2.1
  have p3 := hi.1.2.2.2.1
  have p12 := hi.2.2.2.1
  refine g_aload_n (pc' := 1) 0 dX10_spilt_0 rfl rfl ?_
  refine g_iconst (pc' := 2) dX10_spilt_1 rfl ?_
  refine g_putI (pc' := 5) dX10_spilt_2 rfl p_X10_77 rfl rfl (by decide) (fun M1 hM1 => ?_)
  have iM1 : IM M1 := IM.wr hi hM1 (by unfold okv; first | decide | omega)
  have fM1 : Fr (fun c => c = 97) M M1 := Fr.wr Fr.rf hM1 (by first | decide | omega | (dsimp only; omega))
  have q99_0_M1 : (M1 99 0 = M 99 0) := (show M1 99 0 = M 99 0 by rw [hM1]; exact mu_ne _ _ (by first | decide | omega))
  have q99_1_M1 : (M1 99 1 = M 99 1) := (show M1 99 1 = M 99 1 by rw [hM1]; exact mu_ne _ _ (by first | decide | omega))
  have q99_2_M1 : (M1 99 2 = M 99 2) := (show M1 99 2 = M 99 2 by rw [hM1]; exact mu_ne _ _ (by first | decide | omega))
  have q99_3_M1 : (M1 99 3 = M 99 3) := (show M1 99 3 = M 99 3 by rw [hM1]; exact mu_ne _ _ (by first | decide | omega))
  have q100_0_M1 : id (M1 100 0 = M 100 0) := (show M1 100 0 = M 100 0 by rw [hM1]; exact mu_ne _ _ (by first | decide | omega))
  have q100_1_M1 : id (M1 100 1 = M 100 1) := (show M1 100 1 = M 100 1 by rw [hM1]; exact mu_ne _ _ (by first | decide | omega))
  have q100_2_M1 : id (M1 100 2 = M 100 2) := (show M1 100 2 = M 100 2 by rw [hM1]; exact mu_ne _ _ (by first | decide | omega))
  have q100_3_M1 : id (M1 100 3 = M 100 3) := (show M1 100 3 = M 100 3 by rw [hM1]; exact mu_ne _ _ (by first | decide | omega))
  have q100_49_M1 : id (M1 100 49 = M 100 49) := (show M1 100 49 = M 100 49 by rw [hM1]; exact mu_ne _ _ (by first | decide | omega))
  have q100_50_M1 : id (M1 100 50 = M 100 50) := (show M1 100 50 = M 100 50 by rw [hM1]; exact mu_ne _ _ (by first | decide | omega))
  have q100_51_M1 : id (M1 100 51 = M 100 51) := (show M1 100 51 = M 100 51 by rw [hM1]; exact mu_ne _ _ (by first | decide | omega))
  have q100_52_M1 : id (M1 100 52 = M 100 52) := (show M1 100 52 = M 100 52 by rw [hM1]; exact mu_ne _ _ (by first | decide | omega))
  have q103_0_M1 : id (M1 103 0 = M 103 0) := (show M1 103 0 = M 103 0 by rw [hM1]; exact mu_ne _ _ (by first | decide | omega))
  have q103_1_M1 : id (M1 103 1 = M 103 1) := (show M1 103 1 = M 103 1 by rw [hM1]; exact mu_ne _ _ (by first | decide | omega))
  have q97_12_M1 : (M1 97 12 = M 97 12) := (show M1 97 12 = M 97 12 by rw [hM1]; exact mu_ne _ _ (by first | decide | omega))
  have q97_17_M1 : (M1 97 17 = M 97 17) := (show M1 97 17 = M 97 17 by rw [hM1]; exact mu_ne _ _ (by first | decide | omega))
  have q97_33_M1 : (M1 97 33 = M 97 33) := (show M1 97 33 = M 97 33 by rw [hM1]; exact mu_ne _ _ (by first | decide | omega))
  have q97_10_M1 : (M1 97 10 = M 97 10) := (show M1 97 10 = M 97 10 by rw [hM1]; exact mu_ne _ _ (by first | decide | omega))
  have q97_44_M1 : (M1 97 44 = M 97 44) := (show M1 97 44 = M 97 44 by rw [hM1]; exact mu_ne _ _ (by first | decide | omega))
  have q97_1_M1 : (M1 97 1 = M 97 1) := (show M1 97 1 = M 97 1 by rw [hM1]; exact mu_ne _ _ (by first | decide | omega))
  have wM1_97_10 : M1 97 10 = M 97 10 := by rw [hM1]; exact mu_ne _ _ (by first | decide | omega)
  have xM1_97_0 : M1 97 0 = 0 := by rw [hM1]; exact mu_at _ _ _ _
  refine g_aload_n (pc' := 6) 0 dX10_spilt_5 rfl rfl ?_
  refine g_getI (pc' := 9) dX10_spilt_6 rfl f_X10_145 rfl rfl (fun v2 ev2 rv2 => ?_)
  have av2 : v2 = M 97 10 := ev2.trans q97_10_M1
  refine g_ireturn dX10_spilt_9 ?_
  exact ⟨iM1, fM1, q99_0_M1, q99_1_M1, q99_2_M1, q99_3_M1, q100_0_M1, q100_1_M1, q100_2_M1, q100_3_M1, q100_49_M1, q100_50_M1, q100_51_M1, q100_52_M1, q103_0_M1, q103_1_M1, q97_12_M1, q97_17_M1, q97_33_M1, q97_10_M1, q97_44_M1, q97_1_M1, by omega⟩
set_option maxHeartbeats 4000000 in
set_option maxRecDepth 100000 in
theorem c_X10_stopped_x (X : Cx) (M : Mm) (hi : IM M) : Con X 12 yX10_stopped cX10_stopped 1 (some .int) [vr X 97] M (Qi (fun r M1 => IM M1 ∧ Fr (fun c => c = 97) M M1 ∧ M1 99 0 = M 99 0 ∧ M1 99 1 = M 99 1 ∧ M1 99 2 = M 99 2 ∧ M1 99 3 = M 99 3 ∧ M1 100 0 = M 100 0 ∧ M1 100 1 = M 100 1 ∧ M1 100 2 = M 100 2 ∧ M1 100 3 = M 100 3 ∧ M1 100 49 = M 100 49 ∧ M1 100 50 = M 100 50 ∧ M1 100 51 = M 100 51 ∧ M1 100 52 = M 100 52 ∧ M1 103 0 = M 103 0 ∧ M1 103 1 = M 103 1 ∧ M1 97 12 = M 97 12 ∧ M1 97 17 = M 97 17 ∧ M1 97 33 = M 97 33 ∧ M1 97 10 = M 97 10 ∧ M1 97 44 = M 97 44 ∧ M1 97 1 = M 97 1 ∧ (r = M 97 33))) := by
  refine Con.ofG rfl (Nat.le_of_ble_eq_true rfl) ?_
  show G X 12 RX10 cX10_stopped 1 (some .int) (Qi (fun r M1 => IM M1 ∧ Fr (fun c => c = 97) M M1 ∧ M1 99 0 = M 99 0 ∧ M1 99 1 = M 99 1 ∧ M1 99 2 = M 99 2 ∧ M1 99 3 = M 99 3 ∧ M1 100 0 = M 100 0 ∧ M1 100 1 = M 100 1 ∧ M1 100 2 = M 100 2 ∧ M1 100 3 = M 100 3 ∧ M1 100 49 = M 100 49 ∧ M1 100 50 = M 100 50 ∧ M1 100 51 = M 100 51 ∧ M1 100 52 = M 100 52 ∧ M1 103 0 = M 103 0 ∧ M1 103 1 = M 103 1 ∧ M1 97 12 = M 97 12 ∧ M1 97 17 = M 97 17 ∧ M1 97 33 = M 97 33 ∧ M1 97 10 = M 97 10 ∧ M1 97 44 = M 97 44 ∧ M1 97 1 = M 97 1 ∧ (r = M 97 33))) 0 [(0, vr X 97)] [] M
  have p0 := hi.1.1
  have p1 := hi.1.2.1
  have p2 := hi.1.2.2.1
  have p3 := hi.1.2.2.2.1
  have p12 := hi.2.2.2.1
  refine g_aload_n (pc' := 1) 0 dX10_stopped_0 rfl rfl ?_
  refine g_iconst (pc' := 2) dX10_stopped_1 rfl ?_
  refine g_putI (pc' := 5) dX10_stopped_2 rfl p_X10_77 rfl rfl (by decide) (fun M1 hM1 => ?_)
  have iM1 : IM M1 := IM.wr hi hM1 (by unfold okv; first | decide | omega)
  have fM1 : Fr (fun c => c = 97) M M1 := Fr.wr Fr.rf hM1 (by first | decide | omega | (dsimp only; omega))
  have q99_0_M1 : (M1 99 0 = M 99 0) := (show M1 99 0 = M 99 0 by rw [hM1]; exact mu_ne _ _ (by first | decide | omega))
  have q99_1_M1 : (M1 99 1 = M 99 1) := (show M1 99 1 = M 99 1 by rw [hM1]; exact mu_ne _ _ (by first | decide | omega))
  have q99_2_M1 : (M1 99 2 = M 99 2) := (show M1 99 2 = M 99 2 by rw [hM1]; exact mu_ne _ _ (by first | decide | omega))
  have q99_3_M1 : (M1 99 3 = M 99 3) := (show M1 99 3 = M 99 3 by rw [hM1]; exact mu_ne _ _ (by first | decide | omega))
  have q100_0_M1 : id (M1 100 0 = M 100 0) := (show M1 100 0 = M 100 0 by rw [hM1]; exact mu_ne _ _ (by first | decide | omega))
  have q100_1_M1 : id (M1 100 1 = M 100 1) := (show M1 100 1 = M 100 1 by rw [hM1]; exact mu_ne _ _ (by first | decide | omega))
  have q100_2_M1 : id (M1 100 2 = M 100 2) := (show M1 100 2 = M 100 2 by rw [hM1]; exact mu_ne _ _ (by first | decide | omega))
  have q100_3_M1 : id (M1 100 3 = M 100 3) := (show M1 100 3 = M 100 3 by rw [hM1]; exact mu_ne _ _ (by first | decide | omega))
  have q100_49_M1 : id (M1 100 49 = M 100 49) := (show M1 100 49 = M 100 49 by rw [hM1]; exact mu_ne _ _ (by first | decide | omega))
  have q100_50_M1 : id (M1 100 50 = M 100 50) := (show M1 100 50 = M 100 50 by rw [hM1]; exact mu_ne _ _ (by first | decide | omega))
  have q100_51_M1 : id (M1 100 51 = M 100 51) := (show M1 100 51 = M 100 51 by rw [hM1]; exact mu_ne _ _ (by first | decide | omega))
  have q100_52_M1 : id (M1 100 52 = M 100 52) := (show M1 100 52 = M 100 52 by rw [hM1]; exact mu_ne _ _ (by first | decide | omega))
  have q103_0_M1 : id (M1 103 0 = M 103 0) := (show M1 103 0 = M 103 0 by rw [hM1]; exact mu_ne _ _ (by first | decide | omega))
  have q103_1_M1 : id (M1 103 1 = M 103 1) := (show M1 103 1 = M 103 1 by rw [hM1]; exact mu_ne _ _ (by first | decide | omega))
  have q97_12_M1 : (M1 97 12 = M 97 12) := (show M1 97 12 = M 97 12 by rw [hM1]; exact mu_ne _ _ (by first | decide | omega))
  have q97_17_M1 : (M1 97 17 = M 97 17) := (show M1 97 17 = M 97 17 by rw [hM1]; exact mu_ne _ _ (by first | decide | omega))
  have q97_33_M1 : (M1 97 33 = M 97 33) := (show M1 97 33 = M 97 33 by rw [hM1]; exact mu_ne _ _ (by first | decide | omega))
  have q97_10_M1 : (M1 97 10 = M 97 10) := (show M1 97 10 = M 97 10 by rw [hM1]; exact mu_ne _ _ (by first | decide | omega))
  have q97_44_M1 : (M1 97 44 = M 97 44) := (show M1 97 44 = M 97 44 by rw [hM1]; exact mu_ne _ _ (by first | decide | omega))
  have q97_1_M1 : (M1 97 1 = M 97 1) := (show M1 97 1 = M 97 1 by rw [hM1]; exact mu_ne _ _ (by first | decide | omega))
  have wM1_97_33 : M1 97 33 = M 97 33 := by rw [hM1]; exact mu_ne _ _ (by first | decide | omega)
  have xM1_97_0 : M1 97 0 = 0 := by rw [hM1]; exact mu_at _ _ _ _
  refine g_aload_n (pc' := 6) 0 dX10_stopped_5 rfl rfl ?_
  refine g_getI (pc' := 9) dX10_stopped_6 rfl f_X10_61 rfl rfl (fun v2 ev2 rv2 => ?_)
  have av2 : v2 = M 97 33 := ev2.trans q97_33_M1
  refine g_ireturn dX10_stopped_9 ?_
  exact ⟨iM1, fM1, q99_0_M1, q99_1_M1, q99_2_M1, q99_3_M1, q100_0_M1, q100_1_M1, q100_2_M1, q100_3_M1, q100_49_M1, q100_50_M1, q100_51_M1, q100_52_M1, q103_0_M1, q103_1_M1, q97_12_M1, q97_17_M1, q97_33_M1, q97_10_M1, q97_44_M1, q97_1_M1, by omega⟩
set_option maxHeartbeats 4000000 in
set_option maxRecDepth 100000 in
theorem c_X10_size_x (X : Cx) (M : Mm) (hi : IM M) (a : Int) (ha : inI a) : Con X 12 yX10_size cX10_size 3 (some .int) [vr X 97, vi a] M (Qi (fun r M1 => IM M1 ∧ Fr (fun c => c = 97 ∨ c = 98 ∨ c = 99) M M1 ∧ M1 99 0 = M 99 0 ∧ M1 99 2 = M 99 2 ∧ M1 99 3 = M 99 3 ∧ M1 100 0 = M 100 0 ∧ M1 100 1 = M 100 1 ∧ M1 100 2 = M 100 2 ∧ M1 100 3 = M 100 3 ∧ M1 100 49 = M 100 49 ∧ M1 100 50 = M 100 50 ∧ M1 100 51 = M 100 51 ∧ M1 100 52 = M 100 52 ∧ M1 103 0 = M 103 0 ∧ M1 103 1 = M 103 1 ∧ M1 97 12 = M 97 12 ∧ M1 97 17 = M 97 17 ∧ M1 97 33 = M 97 33 ∧ M1 97 10 = M 97 10 ∧ M1 97 44 = M 97 44 ∧ ((((a < 1 ∨ 60 < a) → r = -1 ∧ M1 99 1 = M 99 1) ∧ (1 ≤ a → a ≤ 60 → 3 ≤ M 99 1 → r = -5 ∧ M1 99 1 = M 99 1) ∧ (1 ≤ a → a ≤ 60 → M 99 1 < 3 → r = M 99 1 ∧ M1 99 1 = M 99 1 + 1)) ∧ (∀ k : Nat, 4 ≤ k → k < 13 → (k : Int) ≠ 10 + M 99 1 → M1 99 k = M 99 k) ∧ (((1 ≤ a ∧ a ≤ 60) ∧ M 99 1 < 3) → M1 99 (10 + M 99 1).toNat = a) ∧ M1 97 1 = ngv r ∧ M1 98 = telF (M 98) r))) := by
  refine Con.ofG rfl (Nat.le_of_ble_eq_true rfl) ?_
  show G X 12 RX10 cX10_size 3 (some .int) (Qi (fun r M1 => IM M1 ∧ Fr (fun c => c = 97 ∨ c = 98 ∨ c = 99) M M1 ∧ M1 99 0 = M 99 0 ∧ M1 99 2 = M 99 2 ∧ M1 99 3 = M 99 3 ∧ M1 100 0 = M 100 0 ∧ M1 100 1 = M 100 1 ∧ M1 100 2 = M 100 2 ∧ M1 100 3 = M 100 3 ∧ M1 100 49 = M 100 49 ∧ M1 100 50 = M 100 50 ∧ M1 100 51 = M 100 51 ∧ M1 100 52 = M 100 52 ∧ M1 103 0 = M 103 0 ∧ M1 103 1 = M 103 1 ∧ M1 97 12 = M 97 12 ∧ M1 97 17 = M 97 17 ∧ M1 97 33 = M 97 33 ∧ M1 97 10 = M 97 10 ∧ M1 97 44 = M 97 44 ∧ ((((a < 1 ∨ 60 < a) → r = -1 ∧ M1 99 1 = M 99 1) ∧ (1 ≤ a → a ≤ 60 → 3 ≤ M 99 1 → r = -5 ∧ M1 99 1 = M 99 1) ∧ (1 ≤ a → a ≤ 60 → M 99 1 < 3 → r = M 99 1 ∧ M1 99 1 = M 99 1 + 1)) ∧ (∀ k : Nat, 4 ≤ k → k < 13 → (k : Int) ≠ 10 + M 99 1 → M1 99 k = M 99 k) ∧ (((1 ≤ a ∧ a ≤ 60) ∧ M 99 1 < 3) → M1 99 (10 + M 99 1).toNat = a) ∧ M1 97 1 = ngv r ∧ M1 98 = telF (M 98) r))) 0 [(0, vr X 97), (1, vi a)] [] M
  have p0 := hi.1.1
  have p1 := hi.1.2.1
  have p2 := hi.1.2.2.1
  have p3 := hi.1.2.2.2.1
  have p12 := hi.2.2.2.1
  refine g_aload_n (pc' := 1) 0 dX10_size_0 rfl rfl ?_
  refine g_iconst (pc' := 2) dX10_size_1 rfl ?_
  refine g_putI (pc' := 5) dX10_size_2 rfl p_X10_77 rfl rfl (by decide) (fun M1 hM1 => ?_)
  have iM1 : IM M1 := IM.wr hi hM1 (by unfold okv; first | decide | omega)
  have fM1 : Fr (fun c => c = 97 ∨ c = 98 ∨ c = 99) M M1 := Fr.wr Fr.rf hM1 (by first | decide | omega | (dsimp only; omega))
  have q99_0_M1 : (M1 99 0 = M 99 0) := (show M1 99 0 = M 99 0 by rw [hM1]; exact mu_ne _ _ (by first | decide | omega))
  have q99_2_M1 : (M1 99 2 = M 99 2) := (show M1 99 2 = M 99 2 by rw [hM1]; exact mu_ne _ _ (by first | decide | omega))
  have q99_3_M1 : (M1 99 3 = M 99 3) := (show M1 99 3 = M 99 3 by rw [hM1]; exact mu_ne _ _ (by first | decide | omega))
  have q100_0_M1 : id (M1 100 0 = M 100 0) := (show M1 100 0 = M 100 0 by rw [hM1]; exact mu_ne _ _ (by first | decide | omega))
  have q100_1_M1 : id (M1 100 1 = M 100 1) := (show M1 100 1 = M 100 1 by rw [hM1]; exact mu_ne _ _ (by first | decide | omega))
  have q100_2_M1 : id (M1 100 2 = M 100 2) := (show M1 100 2 = M 100 2 by rw [hM1]; exact mu_ne _ _ (by first | decide | omega))
  have q100_3_M1 : id (M1 100 3 = M 100 3) := (show M1 100 3 = M 100 3 by rw [hM1]; exact mu_ne _ _ (by first | decide | omega))
  have q100_49_M1 : id (M1 100 49 = M 100 49) := (show M1 100 49 = M 100 49 by rw [hM1]; exact mu_ne _ _ (by first | decide | omega))
  have q100_50_M1 : id (M1 100 50 = M 100 50) := (show M1 100 50 = M 100 50 by rw [hM1]; exact mu_ne _ _ (by first | decide | omega))
  have q100_51_M1 : id (M1 100 51 = M 100 51) := (show M1 100 51 = M 100 51 by rw [hM1]; exact mu_ne _ _ (by first | decide | omega))
  have q100_52_M1 : id (M1 100 52 = M 100 52) := (show M1 100 52 = M 100 52 by rw [hM1]; exact mu_ne _ _ (by first | decide | omega))
  have q103_0_M1 : id (M1 103 0 = M 103 0) := (show M1 103 0 = M 103 0 by rw [hM1]; exact mu_ne _ _ (by first | decide | omega))
  have q103_1_M1 : id (M1 103 1 = M 103 1) := (show M1 103 1 = M 103 1 by rw [hM1]; exact mu_ne _ _ (by first | decide | omega))
  have q97_12_M1 : (M1 97 12 = M 97 12) := (show M1 97 12 = M 97 12 by rw [hM1]; exact mu_ne _ _ (by first | decide | omega))
  have q97_17_M1 : (M1 97 17 = M 97 17) := (show M1 97 17 = M 97 17 by rw [hM1]; exact mu_ne _ _ (by first | decide | omega))
  have q97_33_M1 : (M1 97 33 = M 97 33) := (show M1 97 33 = M 97 33 by rw [hM1]; exact mu_ne _ _ (by first | decide | omega))
  have q97_10_M1 : (M1 97 10 = M 97 10) := (show M1 97 10 = M 97 10 by rw [hM1]; exact mu_ne _ _ (by first | decide | omega))
  have q97_44_M1 : (M1 97 44 = M 97 44) := (show M1 97 44 = M 97 44 by rw [hM1]; exact mu_ne _ _ (by first | decide | omega))
  have q99_1_M1 : (M1 99 1 = M 99 1) := (show M1 99 1 = M 99 1 by rw [hM1]; exact mu_ne _ _ (by first | decide | omega))
  have q97_1_M1 : (M1 97 1 = M 97 1) := (show M1 97 1 = M 97 1 by rw [hM1]; exact mu_ne _ _ (by first | decide | omega))
  have wM1_99_1 : M1 99 1 = M 99 1 := by rw [hM1]; exact mu_ne _ _ (by first | decide | omega)
  have wM1_97_1 : M1 97 1 = M 97 1 := by rw [hM1]; exact mu_ne _ _ (by first | decide | omega)
  have wM1_97_1 : M1 97 1 = M 97 1 := by rw [hM1]; exact mu_ne _ _ (by first | decide | omega)
  have xM1_97_0 : M1 97 0 = 0 := by rw [hM1]; exact mu_at _ _ _ _
  have rkM1 : ∀ k : Nat, 4 ≤ k → k < 13 → (k : Int) ≠ 10 + M 99 1 → M1 99 k = M 99 k := fun k hk1 hk2 hk3 => by rw [hM1, mu_cell _ _ (by decide)]
  have k98M1 : M1 98 = M 98 := (show M1 98 = M 98 by rw [hM1]; exact mu_cell _ _ (by decide))
  refine g_iload_n (pc' := 6) 1 dX10_size_5 rfl rfl ?_
  refine g_callSip (pc' := 9) (As := [vi a]) (S := []) dX10_size_6 rfl m_X10_95 w_X10_isAmount (c_X10_isAmount X M1 a ha) rfl (by decide) (by decide) rfl (Nat.le_of_ble_eq_true rfl) (fun z3 q2 => ?_)
  refine g_if_ne (pc' := 12) (tgt := 18) ⟨by omega, by omega⟩ dX10_size_9 rfl rfl (fun c4 => ?_) (fun c4 => ?_)
  · replace q2 := q2.resolve_right (fun h => c4 h.1)
    refine g_aload_n (pc' := 19) 0 dX10_size_18 rfl rfl ?_
    refine g_getR (pc' := 22) dX10_size_19 rfl f_X10_13 rfl rfl ?_
    refine g_iconst (pc' := 23) dX10_size_22 rfl ?_
    refine g_iald (pc' := 24) dX10_size_23 rfl rfl (by decide) (by decide) (fun v5 ev5 rv5 => ?_)
    have ev5 : v5 = M1 99 1 := ev5
    have bv5 : 0 ≤ v5 ∧ v5 ≤ 3 := by rw [ev5]; exact iM1.1.2.1
    have av5 : v5 = M 99 1 := ev5.trans q99_1_M1
    refine g_istore_n (pc' := 25) (i := 2) (L' := [(2, vi v5), (0, vr X 97), (1, vi a)]) dX10_size_24 rfl rfl (by decide) rfl ?_
    refine g_iload_n (pc' := 26) 0 dX10_size_25 rfl rfl ?_
    refine g_iconst (pc' := 27) dX10_size_26 rfl ?_
    refine g_ic_ne (pc' := 30) (tgt := 37) rv5 (by decide) dX10_size_27 rfl rfl (fun c6 => ?_) (fun c6 => ?_)
    · refine g_aload_n (pc' := 38) 1 dX10_size_37 rfl rfl ?_
      refine g_getR (pc' := 41) dX10_size_38 rfl f_X10_13 rfl rfl ?_
      refine g_bipush (pc' := 43) (v := 10) dX10_size_41 rfl (by decide) ?_
      refine g_iload_n (pc' := 44) 0 dX10_size_43 rfl rfl ?_
      refine g_iadd (pc' := 45) dX10_size_44 rfl ?_
      refine g_iload_n (pc' := 46) 2 dX10_size_45 rfl rfl ?_
      refine g_iast (pc' := 47) dX10_size_46 rfl rfl (by omega) (by omega) ha (fun M7 hM7 => ?_)
      have iM7 : IM M7 := IM.wrow iM1 hM7 (by unfold okrow; omega)
      have fM7 : Fr (fun c => c = 97 ∨ c = 98 ∨ c = 99) M M7 := Fr.wr fM1 hM7 (by first | decide | omega | (dsimp only; omega))
      have q99_0_M7 : (M7 99 0 = M 99 0) := (show M7 99 0 = M1 99 0 by rw [hM7]; exact mu_ne _ _ (by first | decide | omega)).trans q99_0_M1
      have q99_2_M7 : (M7 99 2 = M 99 2) := (show M7 99 2 = M1 99 2 by rw [hM7]; exact mu_ne _ _ (by first | decide | omega)).trans q99_2_M1
      have q99_3_M7 : (M7 99 3 = M 99 3) := (show M7 99 3 = M1 99 3 by rw [hM7]; exact mu_ne _ _ (by first | decide | omega)).trans q99_3_M1
      have q100_0_M7 : id (M7 100 0 = M 100 0) := (show M7 100 0 = M1 100 0 by rw [hM7]; exact mu_ne _ _ (by first | decide | omega)).trans q100_0_M1
      have q100_1_M7 : id (M7 100 1 = M 100 1) := (show M7 100 1 = M1 100 1 by rw [hM7]; exact mu_ne _ _ (by first | decide | omega)).trans q100_1_M1
      have q100_2_M7 : id (M7 100 2 = M 100 2) := (show M7 100 2 = M1 100 2 by rw [hM7]; exact mu_ne _ _ (by first | decide | omega)).trans q100_2_M1
      have q100_3_M7 : id (M7 100 3 = M 100 3) := (show M7 100 3 = M1 100 3 by rw [hM7]; exact mu_ne _ _ (by first | decide | omega)).trans q100_3_M1
      have q100_49_M7 : id (M7 100 49 = M 100 49) := (show M7 100 49 = M1 100 49 by rw [hM7]; exact mu_ne _ _ (by first | decide | omega)).trans q100_49_M1
      have q100_50_M7 : id (M7 100 50 = M 100 50) := (show M7 100 50 = M1 100 50 by rw [hM7]; exact mu_ne _ _ (by first | decide | omega)).trans q100_50_M1
      have q100_51_M7 : id (M7 100 51 = M 100 51) := (show M7 100 51 = M1 100 51 by rw [hM7]; exact mu_ne _ _ (by first | decide | omega)).trans q100_51_M1
      have q100_52_M7 : id (M7 100 52 = M 100 52) := (show M7 100 52 = M1 100 52 by rw [hM7]; exact mu_ne _ _ (by first | decide | omega)).trans q100_52_M1
      have q103_0_M7 : id (M7 103 0 = M 103 0) := (show M7 103 0 = M1 103 0 by rw [hM7]; exact mu_ne _ _ (by first | decide | omega)).trans q103_0_M1
      have q103_1_M7 : id (M7 103 1 = M 103 1) := (show M7 103 1 = M1 103 1 by rw [hM7]; exact mu_ne _ _ (by first | decide | omega)).trans q103_1_M1
      have q97_12_M7 : (M7 97 12 = M 97 12) := (show M7 97 12 = M1 97 12 by rw [hM7]; exact mu_ne _ _ (by first | decide | omega)).trans q97_12_M1
      have q97_17_M7 : (M7 97 17 = M 97 17) := (show M7 97 17 = M1 97 17 by rw [hM7]; exact mu_ne _ _ (by first | decide | omega)).trans q97_17_M1
      have q97_33_M7 : (M7 97 33 = M 97 33) := (show M7 97 33 = M1 97 33 by rw [hM7]; exact mu_ne _ _ (by first | decide | omega)).trans q97_33_M1
      have q97_10_M7 : (M7 97 10 = M 97 10) := (show M7 97 10 = M1 97 10 by rw [hM7]; exact mu_ne _ _ (by first | decide | omega)).trans q97_10_M1
      have q97_44_M7 : (M7 97 44 = M 97 44) := (show M7 97 44 = M1 97 44 by rw [hM7]; exact mu_ne _ _ (by first | decide | omega)).trans q97_44_M1
      have q99_1_M7 : (M7 99 1 = M 99 1) := (show M7 99 1 = M1 99 1 by rw [hM7]; exact mu_ne _ _ (by first | decide | omega)).trans q99_1_M1
      have q97_1_M7 : (M7 97 1 = M 97 1) := (show M7 97 1 = M1 97 1 by rw [hM7]; exact mu_ne _ _ (by first | decide | omega)).trans q97_1_M1
      have wM7_99_1 : M7 99 1 = M1 99 1 := by rw [hM7]; exact mu_ne _ _ (by first | decide | omega)
      have wM7_97_1 : M7 97 1 = M1 97 1 := by rw [hM7]; exact mu_ne _ _ (by first | decide | omega)
      have wM7_97_1 : M7 97 1 = M1 97 1 := by rw [hM7]; exact mu_ne _ _ (by first | decide | omega)
      have xM7_97_0 : M7 97 0 = 0 := (show M7 97 0 = M1 97 0 by rw [hM7]; exact mu_ne _ _ (by first | decide | omega)).trans xM1_97_0
      have rkM7 : ∀ k : Nat, 4 ≤ k → k < 13 → (k : Int) ≠ 10 + M 99 1 → M7 99 k = M 99 k := fun k hk1 hk2 hk3 => by rw [hM7, mu_ne _ _ (fun _ => by omega)]; exact rkM1 k hk1 hk2 hk3
      have k98M7 : M7 98 = M 98 := (show M7 98 = M1 98 by rw [hM7]; exact mu_cell _ _ (by decide)).trans k98M1
      have xsM7 : M7 99 (10 + M 99 1).toNat = a := by rw [show (10 + M 99 1).toNat = (10 + v5).toNat by omega, hM7]; exact mu_at _ _ _ _
      refine g_aload_n (pc' := 48) 1 dX10_size_47 rfl rfl ?_
      refine g_getR (pc' := 51) dX10_size_48 rfl f_X10_13 rfl rfl ?_
      refine g_iconst (pc' := 52) dX10_size_51 rfl ?_
      refine g_dup2_11 (pc' := 53) dX10_size_52 rfl rfl rfl ?_
      refine g_iald (pc' := 54) dX10_size_53 rfl rfl (by decide) (by decide) (fun v8 ev8 rv8 => ?_)
      have ev8 : v8 = M7 99 1 := ev8
      have bv8 : 0 ≤ v8 ∧ v8 ≤ 3 := by rw [ev8]; exact iM7.1.2.1
      have av8 : v8 = M 99 1 := ev8.trans q99_1_M7
      obtain rfl : v5 = v8 := av5.trans av8.symm
      refine g_iconst (pc' := 55) dX10_size_54 rfl ?_
      refine g_iadd (pc' := 56) dX10_size_55 rfl ?_
      refine g_iast (pc' := 57) dX10_size_56 rfl rfl (by decide) (by decide) ⟨by omega, by omega⟩ (fun M9 hM9 => ?_)
      have hM9 : M9 = mu M7 99 1 (v5 + 1) := hM9
      have fM9 : Fr (fun c => c = 97 ∨ c = 98 ∨ c = 99) M M9 := Fr.wr fM7 hM9 (by first | decide | omega | (dsimp only; omega))
      have q99_0_M9 : (M9 99 0 = M 99 0) := (show M9 99 0 = M7 99 0 by rw [hM9]; exact mu_ne _ _ (by first | decide | omega)).trans q99_0_M7
      have q99_2_M9 : (M9 99 2 = M 99 2) := (show M9 99 2 = M7 99 2 by rw [hM9]; exact mu_ne _ _ (by first | decide | omega)).trans q99_2_M7
      have q99_3_M9 : (M9 99 3 = M 99 3) := (show M9 99 3 = M7 99 3 by rw [hM9]; exact mu_ne _ _ (by first | decide | omega)).trans q99_3_M7
      have q100_0_M9 : id (M9 100 0 = M 100 0) := (show M9 100 0 = M7 100 0 by rw [hM9]; exact mu_ne _ _ (by first | decide | omega)).trans q100_0_M7
      have q100_1_M9 : id (M9 100 1 = M 100 1) := (show M9 100 1 = M7 100 1 by rw [hM9]; exact mu_ne _ _ (by first | decide | omega)).trans q100_1_M7
      have q100_2_M9 : id (M9 100 2 = M 100 2) := (show M9 100 2 = M7 100 2 by rw [hM9]; exact mu_ne _ _ (by first | decide | omega)).trans q100_2_M7
      have q100_3_M9 : id (M9 100 3 = M 100 3) := (show M9 100 3 = M7 100 3 by rw [hM9]; exact mu_ne _ _ (by first | decide | omega)).trans q100_3_M7
      have q100_49_M9 : id (M9 100 49 = M 100 49) := (show M9 100 49 = M7 100 49 by rw [hM9]; exact mu_ne _ _ (by first | decide | omega)).trans q100_49_M7
      have q100_50_M9 : id (M9 100 50 = M 100 50) := (show M9 100 50 = M7 100 50 by rw [hM9]; exact mu_ne _ _ (by first | decide | omega)).trans q100_50_M7
      have q100_51_M9 : id (M9 100 51 = M 100 51) := (show M9 100 51 = M7 100 51 by rw [hM9]; exact mu_ne _ _ (by first | decide | omega)).trans q100_51_M7
      have q100_52_M9 : id (M9 100 52 = M 100 52) := (show M9 100 52 = M7 100 52 by rw [hM9]; exact mu_ne _ _ (by first | decide | omega)).trans q100_52_M7
      have q103_0_M9 : id (M9 103 0 = M 103 0) := (show M9 103 0 = M7 103 0 by rw [hM9]; exact mu_ne _ _ (by first | decide | omega)).trans q103_0_M7
      have q103_1_M9 : id (M9 103 1 = M 103 1) := (show M9 103 1 = M7 103 1 by rw [hM9]; exact mu_ne _ _ (by first | decide | omega)).trans q103_1_M7
      have q97_12_M9 : (M9 97 12 = M 97 12) := (show M9 97 12 = M7 97 12 by rw [hM9]; exact mu_ne _ _ (by first | decide | omega)).trans q97_12_M7
      have q97_17_M9 : (M9 97 17 = M 97 17) := (show M9 97 17 = M7 97 17 by rw [hM9]; exact mu_ne _ _ (by first | decide | omega)).trans q97_17_M7
      have q97_33_M9 : (M9 97 33 = M 97 33) := (show M9 97 33 = M7 97 33 by rw [hM9]; exact mu_ne _ _ (by first | decide | omega)).trans q97_33_M7
      have q97_10_M9 : (M9 97 10 = M 97 10) := (show M9 97 10 = M7 97 10 by rw [hM9]; exact mu_ne _ _ (by first | decide | omega)).trans q97_10_M7
      have q97_44_M9 : (M9 97 44 = M 97 44) := (show M9 97 44 = M7 97 44 by rw [hM9]; exact mu_ne _ _ (by first | decide | omega)).trans q97_44_M7
      have q97_1_M9 : (M9 97 1 = M 97 1) := (show M9 97 1 = M7 97 1 by rw [hM9]; exact mu_ne _ _ (by first | decide | omega)).trans q97_1_M7
      have wM9_97_1 : M9 97 1 = M7 97 1 := by rw [hM9]; exact mu_ne _ _ (by first | decide | omega)
      have wM9_97_1 : M9 97 1 = M7 97 1 := by rw [hM9]; exact mu_ne _ _ (by first | decide | omega)
      have xM9_97_0 : M9 97 0 = 0 := (show M9 97 0 = M7 97 0 by rw [hM9]; exact mu_ne _ _ (by first | decide | omega)).trans xM7_97_0
      have xM9_99_1 : M9 99 1 = v5 + 1 := by rw [hM9]; exact mu_at _ _ _ _
      have sM9 : ∀ i : Nat, (i : Int) < v5 + 1 → 1 ≤ M7 99 (10 + i) ∧ M7 99 (10 + i) ≤ 60 := by
        intro i hi2
        by_cases z : i = v5.toNat
        · rw [z, hM7, show 10 + v5.toNat = (10 + v5).toNat by omega, mu_at]; omega
        · exact iM7.1.2.2.2.2.2.1 i (by omega)
      have iM9 : IM M9 := IM.wrow1 iM7 hM9 (by omega) sM9
      have rkM9 : ∀ k : Nat, 4 ≤ k → k < 13 → (k : Int) ≠ 10 + M 99 1 → M9 99 k = M 99 k := fun k hk1 hk2 hk3 => by rw [hM9, mu_ne _ _ (fun _ => by omega)]; exact rkM7 k hk1 hk2 hk3
      have k98M9 : M9 98 = M 98 := (show M9 98 = M7 98 by rw [hM9]; exact mu_cell _ _ (by decide)).trans k98M7
      have xsM9 : M9 99 (10 + M 99 1).toNat = a := (show M9 99 (10 + M 99 1).toNat = M7 99 (10 + M 99 1).toNat by rw [hM9]; exact mu_ne _ _ (by first | decide | omega)).trans xsM7
      refine g_aload_n (pc' := 58) 1 dX10_size_57 rfl rfl ?_
      refine g_iload_n (pc' := 59) 0 dX10_size_58 rfl rfl ?_
      refine g_callVi (pc' := 62) (As := [vi v5]) (b := 97) (S := []) dX10_size_59 rfl m_X10_87 w_X10_tell (c_X10_tell_x X M9 iM9 v5 rv5 (by omega)) rfl ⟨_, _, _, rfl, rfl, rfl⟩ (by decide) (by decide) rfl (Nat.le_of_ble_eq_true rfl) (fun z11 M12 q10 => ?_)
      obtain ⟨iM12, fM120, eM12_99_0, eM12_99_1, eM12_99_2, eM12_99_3, eM12_100_0, eM12_100_1, eM12_100_2, eM12_100_3, eM12_100_49, eM12_100_50, eM12_100_51, eM12_100_52, eM12_103_0, eM12_103_1, eM12_97_12, eM12_97_17, eM12_97_33, eM12_97_10, eM12_97_44, pM12⟩ := q10
      have fM12 : Fr (fun c => c = 97 ∨ c = 98 ∨ c = 99) M M12 := Fr.tr fM9 fM120 fi_30
      have q99_0_M12 : (M12 99 0 = M 99 0) := eM12_99_0.trans q99_0_M9
      have q99_2_M12 : (M12 99 2 = M 99 2) := eM12_99_2.trans q99_2_M9
      have q99_3_M12 : (M12 99 3 = M 99 3) := eM12_99_3.trans q99_3_M9
      have q100_0_M12 : id (M12 100 0 = M 100 0) := eM12_100_0.trans q100_0_M9
      have q100_1_M12 : id (M12 100 1 = M 100 1) := eM12_100_1.trans q100_1_M9
      have q100_2_M12 : id (M12 100 2 = M 100 2) := eM12_100_2.trans q100_2_M9
      have q100_3_M12 : id (M12 100 3 = M 100 3) := eM12_100_3.trans q100_3_M9
      have q100_49_M12 : id (M12 100 49 = M 100 49) := eM12_100_49.trans q100_49_M9
      have q100_50_M12 : id (M12 100 50 = M 100 50) := eM12_100_50.trans q100_50_M9
      have q100_51_M12 : id (M12 100 51 = M 100 51) := eM12_100_51.trans q100_51_M9
      have q100_52_M12 : id (M12 100 52 = M 100 52) := eM12_100_52.trans q100_52_M9
      have q103_0_M12 : id (M12 103 0 = M 103 0) := eM12_103_0.trans q103_0_M9
      have q103_1_M12 : id (M12 103 1 = M 103 1) := eM12_103_1.trans q103_1_M9
      have q97_12_M12 : (M12 97 12 = M 97 12) := eM12_97_12.trans q97_12_M9
      have q97_17_M12 : (M12 97 17 = M 97 17) := eM12_97_17.trans q97_17_M9
      have q97_33_M12 : (M12 97 33 = M 97 33) := eM12_97_33.trans q97_33_M9
      have q97_10_M12 : (M12 97 10 = M 97 10) := eM12_97_10.trans q97_10_M9
      have q97_44_M12 : (M12 97 44 = M 97 44) := eM12_97_44.trans q97_44_M9
      have wM12_99_1 : M12 99 1 = M9 99 1 := eM12_99_1
      have xM12_99_1 : M12 99 1 = v5 + 1 := eM12_99_1.trans xM9_99_1
      clear eM12_100_0 eM12_100_1 eM12_100_2 eM12_100_3 eM12_100_49 eM12_100_50 eM12_100_51 eM12_100_52 eM12_103_0 eM12_103_1
      obtain ⟨anM12, asM12, a98M12⟩ := pM12
      rw [k98M9] at a98M12
      subst anM12
      have t99 := fM120 99 (by decide)
      refine g_ireturn dX10_size_62 ?_
      exact ⟨iM12, fM12, q99_0_M12, q99_2_M12, q99_3_M12, q100_0_M12, q100_1_M12, q100_2_M12, q100_3_M12, q100_49_M12, q100_50_M12, q100_51_M12, q100_52_M12, q103_0_M12, q103_1_M12, q97_12_M12, q97_17_M12, q97_33_M12, q97_10_M12, q97_44_M12, by omega, fun k hk1 hk2 hk3 => by rw [t99]; exact rkM9 k hk1 hk2 hk3, fun q => by rw [t99]; exact xsM9, asM12, a98M12⟩
    · refine g_aload_n (pc' := 31) 1 dX10_size_30 rfl rfl ?_
      refine g_bipush (pc' := 33) (v := (-5)) dX10_size_31 rfl (by decide) ?_
      refine g_callVi (pc' := 36) (As := [vi (-5)]) (b := 97) (S := []) dX10_size_33 rfl m_X10_87 w_X10_tell (c_X10_tell_x X M1 iM1 (-5) (by decide) (by omega)) rfl ⟨_, _, _, rfl, rfl, rfl⟩ (by decide) (by decide) rfl (Nat.le_of_ble_eq_true rfl) (fun z14 M15 q13 => ?_)
      obtain ⟨iM15, fM150, eM15_99_0, eM15_99_1, eM15_99_2, eM15_99_3, eM15_100_0, eM15_100_1, eM15_100_2, eM15_100_3, eM15_100_49, eM15_100_50, eM15_100_51, eM15_100_52, eM15_103_0, eM15_103_1, eM15_97_12, eM15_97_17, eM15_97_33, eM15_97_10, eM15_97_44, pM15⟩ := q13
      have fM15 : Fr (fun c => c = 97 ∨ c = 98 ∨ c = 99) M M15 := Fr.tr fM1 fM150 fi_30
      have q99_0_M15 : (M15 99 0 = M 99 0) := eM15_99_0.trans q99_0_M1
      have q99_2_M15 : (M15 99 2 = M 99 2) := eM15_99_2.trans q99_2_M1
      have q99_3_M15 : (M15 99 3 = M 99 3) := eM15_99_3.trans q99_3_M1
      have q100_0_M15 : id (M15 100 0 = M 100 0) := eM15_100_0.trans q100_0_M1
      have q100_1_M15 : id (M15 100 1 = M 100 1) := eM15_100_1.trans q100_1_M1
      have q100_2_M15 : id (M15 100 2 = M 100 2) := eM15_100_2.trans q100_2_M1
      have q100_3_M15 : id (M15 100 3 = M 100 3) := eM15_100_3.trans q100_3_M1
      have q100_49_M15 : id (M15 100 49 = M 100 49) := eM15_100_49.trans q100_49_M1
      have q100_50_M15 : id (M15 100 50 = M 100 50) := eM15_100_50.trans q100_50_M1
      have q100_51_M15 : id (M15 100 51 = M 100 51) := eM15_100_51.trans q100_51_M1
      have q100_52_M15 : id (M15 100 52 = M 100 52) := eM15_100_52.trans q100_52_M1
      have q103_0_M15 : id (M15 103 0 = M 103 0) := eM15_103_0.trans q103_0_M1
      have q103_1_M15 : id (M15 103 1 = M 103 1) := eM15_103_1.trans q103_1_M1
      have q97_12_M15 : (M15 97 12 = M 97 12) := eM15_97_12.trans q97_12_M1
      have q97_17_M15 : (M15 97 17 = M 97 17) := eM15_97_17.trans q97_17_M1
      have q97_33_M15 : (M15 97 33 = M 97 33) := eM15_97_33.trans q97_33_M1
      have q97_10_M15 : (M15 97 10 = M 97 10) := eM15_97_10.trans q97_10_M1
      have q97_44_M15 : (M15 97 44 = M 97 44) := eM15_97_44.trans q97_44_M1
      have q99_1_M15 : (M15 99 1 = M 99 1) := eM15_99_1.trans q99_1_M1
      have wM15_99_1 : M15 99 1 = M1 99 1 := eM15_99_1
      clear eM15_100_0 eM15_100_1 eM15_100_2 eM15_100_3 eM15_100_49 eM15_100_50 eM15_100_51 eM15_100_52 eM15_103_0 eM15_103_1
      obtain ⟨anM15, asM15, a98M15⟩ := pM15
      rw [k98M1] at a98M15
      subst anM15
      have t99 := fM150 99 (by decide)
      refine g_ireturn dX10_size_36 ?_
      exact ⟨iM15, fM15, q99_0_M15, q99_2_M15, q99_3_M15, q100_0_M15, q100_1_M15, q100_2_M15, q100_3_M15, q100_49_M15, q100_50_M15, q100_51_M15, q100_52_M15, q103_0_M15, q103_1_M15, q97_12_M15, q97_17_M15, q97_33_M15, q97_10_M15, q97_44_M15, by omega, fun k hk1 hk2 hk3 => by rw [t99]; exact rkM1 k hk1 hk2 hk3, fun q => absurd q (by omega), asM15, a98M15⟩
  · replace q2 := q2.resolve_left (fun h => absurd (c4.symm.trans h.1) (by decide))
    refine g_aload_n (pc' := 13) 0 dX10_size_12 rfl rfl ?_
    refine g_iconst (pc' := 14) dX10_size_13 rfl ?_
    refine g_callVi (pc' := 17) (As := [vi (-1)]) (b := 97) (S := []) dX10_size_14 rfl m_X10_87 w_X10_tell (c_X10_tell_x X M1 iM1 (-1) (by decide) (by omega)) rfl ⟨_, _, _, rfl, rfl, rfl⟩ (by decide) (by decide) rfl (Nat.le_of_ble_eq_true rfl) (fun z17 M18 q16 => ?_)
    obtain ⟨iM18, fM180, eM18_99_0, eM18_99_1, eM18_99_2, eM18_99_3, eM18_100_0, eM18_100_1, eM18_100_2, eM18_100_3, eM18_100_49, eM18_100_50, eM18_100_51, eM18_100_52, eM18_103_0, eM18_103_1, eM18_97_12, eM18_97_17, eM18_97_33, eM18_97_10, eM18_97_44, pM18⟩ := q16
    have fM18 : Fr (fun c => c = 97 ∨ c = 98 ∨ c = 99) M M18 := Fr.tr fM1 fM180 fi_30
    have q99_0_M18 : (M18 99 0 = M 99 0) := eM18_99_0.trans q99_0_M1
    have q99_2_M18 : (M18 99 2 = M 99 2) := eM18_99_2.trans q99_2_M1
    have q99_3_M18 : (M18 99 3 = M 99 3) := eM18_99_3.trans q99_3_M1
    have q100_0_M18 : id (M18 100 0 = M 100 0) := eM18_100_0.trans q100_0_M1
    have q100_1_M18 : id (M18 100 1 = M 100 1) := eM18_100_1.trans q100_1_M1
    have q100_2_M18 : id (M18 100 2 = M 100 2) := eM18_100_2.trans q100_2_M1
    have q100_3_M18 : id (M18 100 3 = M 100 3) := eM18_100_3.trans q100_3_M1
    have q100_49_M18 : id (M18 100 49 = M 100 49) := eM18_100_49.trans q100_49_M1
    have q100_50_M18 : id (M18 100 50 = M 100 50) := eM18_100_50.trans q100_50_M1
    have q100_51_M18 : id (M18 100 51 = M 100 51) := eM18_100_51.trans q100_51_M1
    have q100_52_M18 : id (M18 100 52 = M 100 52) := eM18_100_52.trans q100_52_M1
    have q103_0_M18 : id (M18 103 0 = M 103 0) := eM18_103_0.trans q103_0_M1
    have q103_1_M18 : id (M18 103 1 = M 103 1) := eM18_103_1.trans q103_1_M1
    have q97_12_M18 : (M18 97 12 = M 97 12) := eM18_97_12.trans q97_12_M1
    have q97_17_M18 : (M18 97 17 = M 97 17) := eM18_97_17.trans q97_17_M1
    have q97_33_M18 : (M18 97 33 = M 97 33) := eM18_97_33.trans q97_33_M1
    have q97_10_M18 : (M18 97 10 = M 97 10) := eM18_97_10.trans q97_10_M1
    have q97_44_M18 : (M18 97 44 = M 97 44) := eM18_97_44.trans q97_44_M1
    have q99_1_M18 : (M18 99 1 = M 99 1) := eM18_99_1.trans q99_1_M1
    have wM18_99_1 : M18 99 1 = M1 99 1 := eM18_99_1
    clear eM18_100_0 eM18_100_1 eM18_100_2 eM18_100_3 eM18_100_49 eM18_100_50 eM18_100_51 eM18_100_52 eM18_103_0 eM18_103_1
    obtain ⟨anM18, asM18, a98M18⟩ := pM18
    rw [k98M1] at a98M18
    subst anM18
    have t99 := fM180 99 (by decide)
    refine g_ireturn dX10_size_17 ?_
    exact ⟨iM18, fM18, q99_0_M18, q99_2_M18, q99_3_M18, q100_0_M18, q100_1_M18, q100_2_M18, q100_3_M18, q100_49_M18, q100_50_M18, q100_51_M18, q100_52_M18, q103_0_M18, q103_1_M18, q97_12_M18, q97_17_M18, q97_33_M18, q97_10_M18, q97_44_M18, by omega, fun k hk1 hk2 hk3 => by rw [t99]; exact rkM1 k hk1 hk2 hk3, fun q => absurd q (by omega), asM18, a98M18⟩
set_option maxHeartbeats 4000000 in
set_option maxRecDepth 100000 in
theorem c_X10_wash_x (X : Cx) (M : Mm) (hi : IM M) : Con X 12 yX10_wash cX10_wash 2 (some .int) [vr X 97] M (Qi (fun r M1 => IM M1 ∧ Fr (fun c => c = 97 ∨ c = 99) M M1 ∧ M1 99 0 = M 99 0 ∧ M1 99 3 = M 99 3 ∧ M1 100 0 = M 100 0 ∧ M1 100 1 = M 100 1 ∧ M1 100 2 = M 100 2 ∧ M1 100 3 = M 100 3 ∧ M1 100 49 = M 100 49 ∧ M1 100 50 = M 100 50 ∧ M1 100 51 = M 100 51 ∧ M1 100 52 = M 100 52 ∧ M1 103 0 = M 103 0 ∧ M1 103 1 = M 103 1 ∧ M1 97 12 = M 97 12 ∧ M1 97 17 = M 97 17 ∧ M1 97 33 = M 97 33 ∧ M1 97 10 = M 97 10 ∧ M1 97 44 = M 97 44 ∧ M1 97 1 = M 97 1 ∧ ((r = M 99 1 + M 99 2 ∧ M1 99 1 = 0 ∧ M1 99 2 = 0) ∧ (∀ k : Nat, 4 ≤ k → k < 13 → M1 99 k = M 99 k)))) := by
  refine Con.ofG rfl (Nat.le_of_ble_eq_true rfl) ?_
  show G X 12 RX10 cX10_wash 2 (some .int) (Qi (fun r M1 => IM M1 ∧ Fr (fun c => c = 97 ∨ c = 99) M M1 ∧ M1 99 0 = M 99 0 ∧ M1 99 3 = M 99 3 ∧ M1 100 0 = M 100 0 ∧ M1 100 1 = M 100 1 ∧ M1 100 2 = M 100 2 ∧ M1 100 3 = M 100 3 ∧ M1 100 49 = M 100 49 ∧ M1 100 50 = M 100 50 ∧ M1 100 51 = M 100 51 ∧ M1 100 52 = M 100 52 ∧ M1 103 0 = M 103 0 ∧ M1 103 1 = M 103 1 ∧ M1 97 12 = M 97 12 ∧ M1 97 17 = M 97 17 ∧ M1 97 33 = M 97 33 ∧ M1 97 10 = M 97 10 ∧ M1 97 44 = M 97 44 ∧ M1 97 1 = M 97 1 ∧ ((r = M 99 1 + M 99 2 ∧ M1 99 1 = 0 ∧ M1 99 2 = 0) ∧ (∀ k : Nat, 4 ≤ k → k < 13 → M1 99 k = M 99 k)))) 0 [(0, vr X 97)] [] M
  have p0 := hi.1.1
  have p1 := hi.1.2.1
  have p2 := hi.1.2.2.1
  have p3 := hi.1.2.2.2.1
  have p12 := hi.2.2.2.1
  refine g_aload_n (pc' := 1) 0 dX10_wash_0 rfl rfl ?_
  refine g_iconst (pc' := 2) dX10_wash_1 rfl ?_
  refine g_putI (pc' := 5) dX10_wash_2 rfl p_X10_77 rfl rfl (by decide) (fun M1 hM1 => ?_)
  have iM1 : IM M1 := IM.wr hi hM1 (by unfold okv; first | decide | omega)
  have fM1 : Fr (fun c => c = 97 ∨ c = 99) M M1 := Fr.wr Fr.rf hM1 (by first | decide | omega | (dsimp only; omega))
  have q99_0_M1 : (M1 99 0 = M 99 0) := (show M1 99 0 = M 99 0 by rw [hM1]; exact mu_ne _ _ (by first | decide | omega))
  have q99_3_M1 : (M1 99 3 = M 99 3) := (show M1 99 3 = M 99 3 by rw [hM1]; exact mu_ne _ _ (by first | decide | omega))
  have q100_0_M1 : id (M1 100 0 = M 100 0) := (show M1 100 0 = M 100 0 by rw [hM1]; exact mu_ne _ _ (by first | decide | omega))
  have q100_1_M1 : id (M1 100 1 = M 100 1) := (show M1 100 1 = M 100 1 by rw [hM1]; exact mu_ne _ _ (by first | decide | omega))
  have q100_2_M1 : id (M1 100 2 = M 100 2) := (show M1 100 2 = M 100 2 by rw [hM1]; exact mu_ne _ _ (by first | decide | omega))
  have q100_3_M1 : id (M1 100 3 = M 100 3) := (show M1 100 3 = M 100 3 by rw [hM1]; exact mu_ne _ _ (by first | decide | omega))
  have q100_49_M1 : id (M1 100 49 = M 100 49) := (show M1 100 49 = M 100 49 by rw [hM1]; exact mu_ne _ _ (by first | decide | omega))
  have q100_50_M1 : id (M1 100 50 = M 100 50) := (show M1 100 50 = M 100 50 by rw [hM1]; exact mu_ne _ _ (by first | decide | omega))
  have q100_51_M1 : id (M1 100 51 = M 100 51) := (show M1 100 51 = M 100 51 by rw [hM1]; exact mu_ne _ _ (by first | decide | omega))
  have q100_52_M1 : id (M1 100 52 = M 100 52) := (show M1 100 52 = M 100 52 by rw [hM1]; exact mu_ne _ _ (by first | decide | omega))
  have q103_0_M1 : id (M1 103 0 = M 103 0) := (show M1 103 0 = M 103 0 by rw [hM1]; exact mu_ne _ _ (by first | decide | omega))
  have q103_1_M1 : id (M1 103 1 = M 103 1) := (show M1 103 1 = M 103 1 by rw [hM1]; exact mu_ne _ _ (by first | decide | omega))
  have q97_12_M1 : (M1 97 12 = M 97 12) := (show M1 97 12 = M 97 12 by rw [hM1]; exact mu_ne _ _ (by first | decide | omega))
  have q97_17_M1 : (M1 97 17 = M 97 17) := (show M1 97 17 = M 97 17 by rw [hM1]; exact mu_ne _ _ (by first | decide | omega))
  have q97_33_M1 : (M1 97 33 = M 97 33) := (show M1 97 33 = M 97 33 by rw [hM1]; exact mu_ne _ _ (by first | decide | omega))
  have q97_10_M1 : (M1 97 10 = M 97 10) := (show M1 97 10 = M 97 10 by rw [hM1]; exact mu_ne _ _ (by first | decide | omega))
  have q97_44_M1 : (M1 97 44 = M 97 44) := (show M1 97 44 = M 97 44 by rw [hM1]; exact mu_ne _ _ (by first | decide | omega))
  have q97_1_M1 : (M1 97 1 = M 97 1) := (show M1 97 1 = M 97 1 by rw [hM1]; exact mu_ne _ _ (by first | decide | omega))
  have q99_1_M1 : (M1 99 1 = M 99 1) := (show M1 99 1 = M 99 1 by rw [hM1]; exact mu_ne _ _ (by first | decide | omega))
  have q99_2_M1 : (M1 99 2 = M 99 2) := (show M1 99 2 = M 99 2 by rw [hM1]; exact mu_ne _ _ (by first | decide | omega))
  have wM1_99_1 : M1 99 1 = M 99 1 := by rw [hM1]; exact mu_ne _ _ (by first | decide | omega)
  have wM1_99_2 : M1 99 2 = M 99 2 := by rw [hM1]; exact mu_ne _ _ (by first | decide | omega)
  have xM1_97_0 : M1 97 0 = 0 := by rw [hM1]; exact mu_at _ _ _ _
  have rkM1 : ∀ k : Nat, 4 ≤ k → k < 13 → M1 99 k = M 99 k := fun k hk1 hk2 => by rw [hM1, mu_cell _ _ (by decide)]
  have k98M1 : M1 98 = M 98 := (show M1 98 = M 98 by rw [hM1]; exact mu_cell _ _ (by decide))
  refine g_aload_n (pc' := 6) 0 dX10_wash_5 rfl rfl ?_
  refine g_getR (pc' := 9) dX10_wash_6 rfl f_X10_13 rfl rfl ?_
  refine g_iconst (pc' := 10) dX10_wash_9 rfl ?_
  refine g_iald (pc' := 11) dX10_wash_10 rfl rfl (by decide) (by decide) (fun v2 ev2 rv2 => ?_)
  have ev2 : v2 = M1 99 1 := ev2
  have bv2 : 0 ≤ v2 ∧ v2 ≤ 3 := by rw [ev2]; exact iM1.1.2.1
  have av2 : v2 = M 99 1 := ev2.trans q99_1_M1
  refine g_aload_n (pc' := 12) 0 dX10_wash_11 rfl rfl ?_
  refine g_getR (pc' := 15) dX10_wash_12 rfl f_X10_13 rfl rfl ?_
  refine g_iconst (pc' := 16) dX10_wash_15 rfl ?_
  refine g_iald (pc' := 17) dX10_wash_16 rfl rfl (by decide) (by decide) (fun v3 ev3 rv3 => ?_)
  have ev3 : v3 = M1 99 2 := ev3
  have bv3 : 0 ≤ v3 ∧ v3 ≤ 6 := by rw [ev3]; exact iM1.1.2.2.1
  have av3 : v3 = M 99 2 := ev3.trans q99_2_M1
  refine g_iadd (pc' := 18) dX10_wash_17 rfl ?_
  refine g_istore_n (pc' := 19) (i := 1) (L' := [(1, vi (v2 + v3)), (0, vr X 97)]) dX10_wash_18 rfl rfl (by decide) rfl ?_
  refine g_aload_n (pc' := 20) 1 dX10_wash_19 rfl rfl ?_
  refine g_getR (pc' := 23) dX10_wash_20 rfl f_X10_13 rfl rfl ?_
  refine g_iconst (pc' := 24) dX10_wash_23 rfl ?_
  refine g_iconst (pc' := 25) dX10_wash_24 rfl ?_
  refine g_iast (pc' := 26) dX10_wash_25 rfl rfl (by decide) (by decide) (by decide) (fun M4 hM4 => ?_)
  have hM4 : M4 = mu M1 99 1 0 := hM4
  have fM4 : Fr (fun c => c = 97 ∨ c = 99) M M4 := Fr.wr fM1 hM4 (by first | decide | omega | (dsimp only; omega))
  have q99_0_M4 : (M4 99 0 = M 99 0) := (show M4 99 0 = M1 99 0 by rw [hM4]; exact mu_ne _ _ (by first | decide | omega)).trans q99_0_M1
  have q99_3_M4 : (M4 99 3 = M 99 3) := (show M4 99 3 = M1 99 3 by rw [hM4]; exact mu_ne _ _ (by first | decide | omega)).trans q99_3_M1
  have q100_0_M4 : id (M4 100 0 = M 100 0) := (show M4 100 0 = M1 100 0 by rw [hM4]; exact mu_ne _ _ (by first | decide | omega)).trans q100_0_M1
  have q100_1_M4 : id (M4 100 1 = M 100 1) := (show M4 100 1 = M1 100 1 by rw [hM4]; exact mu_ne _ _ (by first | decide | omega)).trans q100_1_M1
  have q100_2_M4 : id (M4 100 2 = M 100 2) := (show M4 100 2 = M1 100 2 by rw [hM4]; exact mu_ne _ _ (by first | decide | omega)).trans q100_2_M1
  have q100_3_M4 : id (M4 100 3 = M 100 3) := (show M4 100 3 = M1 100 3 by rw [hM4]; exact mu_ne _ _ (by first | decide | omega)).trans q100_3_M1
  have q100_49_M4 : id (M4 100 49 = M 100 49) := (show M4 100 49 = M1 100 49 by rw [hM4]; exact mu_ne _ _ (by first | decide | omega)).trans q100_49_M1
  have q100_50_M4 : id (M4 100 50 = M 100 50) := (show M4 100 50 = M1 100 50 by rw [hM4]; exact mu_ne _ _ (by first | decide | omega)).trans q100_50_M1
  have q100_51_M4 : id (M4 100 51 = M 100 51) := (show M4 100 51 = M1 100 51 by rw [hM4]; exact mu_ne _ _ (by first | decide | omega)).trans q100_51_M1
  have q100_52_M4 : id (M4 100 52 = M 100 52) := (show M4 100 52 = M1 100 52 by rw [hM4]; exact mu_ne _ _ (by first | decide | omega)).trans q100_52_M1
  have q103_0_M4 : id (M4 103 0 = M 103 0) := (show M4 103 0 = M1 103 0 by rw [hM4]; exact mu_ne _ _ (by first | decide | omega)).trans q103_0_M1
  have q103_1_M4 : id (M4 103 1 = M 103 1) := (show M4 103 1 = M1 103 1 by rw [hM4]; exact mu_ne _ _ (by first | decide | omega)).trans q103_1_M1
  have q97_12_M4 : (M4 97 12 = M 97 12) := (show M4 97 12 = M1 97 12 by rw [hM4]; exact mu_ne _ _ (by first | decide | omega)).trans q97_12_M1
  have q97_17_M4 : (M4 97 17 = M 97 17) := (show M4 97 17 = M1 97 17 by rw [hM4]; exact mu_ne _ _ (by first | decide | omega)).trans q97_17_M1
  have q97_33_M4 : (M4 97 33 = M 97 33) := (show M4 97 33 = M1 97 33 by rw [hM4]; exact mu_ne _ _ (by first | decide | omega)).trans q97_33_M1
  have q97_10_M4 : (M4 97 10 = M 97 10) := (show M4 97 10 = M1 97 10 by rw [hM4]; exact mu_ne _ _ (by first | decide | omega)).trans q97_10_M1
  have q97_44_M4 : (M4 97 44 = M 97 44) := (show M4 97 44 = M1 97 44 by rw [hM4]; exact mu_ne _ _ (by first | decide | omega)).trans q97_44_M1
  have q97_1_M4 : (M4 97 1 = M 97 1) := (show M4 97 1 = M1 97 1 by rw [hM4]; exact mu_ne _ _ (by first | decide | omega)).trans q97_1_M1
  have q99_2_M4 : (M4 99 2 = M 99 2) := (show M4 99 2 = M1 99 2 by rw [hM4]; exact mu_ne _ _ (by first | decide | omega)).trans q99_2_M1
  have wM4_99_2 : M4 99 2 = M1 99 2 := by rw [hM4]; exact mu_ne _ _ (by first | decide | omega)
  have xM4_97_0 : M4 97 0 = 0 := (show M4 97 0 = M1 97 0 by rw [hM4]; exact mu_ne _ _ (by first | decide | omega)).trans xM1_97_0
  have xM4_99_1 : M4 99 1 = 0 := by rw [hM4]; exact mu_at _ _ _ _
  have iM4 : IM M4 := IM.wrow1 iM1 hM4 (by omega) (fun i hi2 => by omega)
  have rkM4 : ∀ k : Nat, 4 ≤ k → k < 13 → M4 99 k = M 99 k := fun k hk1 hk2 => by rw [hM4, mu_ne _ _ (fun _ => by omega)]; exact rkM1 k hk1 hk2
  have k98M4 : M4 98 = M 98 := (show M4 98 = M1 98 by rw [hM4]; exact mu_cell _ _ (by decide)).trans k98M1
  refine g_aload_n (pc' := 27) 1 dX10_wash_26 rfl rfl ?_
  refine g_getR (pc' := 30) dX10_wash_27 rfl f_X10_13 rfl rfl ?_
  refine g_iconst (pc' := 31) dX10_wash_30 rfl ?_
  refine g_iconst (pc' := 32) dX10_wash_31 rfl ?_
  refine g_iast (pc' := 33) dX10_wash_32 rfl rfl (by decide) (by decide) (by decide) (fun M5 hM5 => ?_)
  have hM5 : M5 = mu M4 99 2 0 := hM5
  have iM5 : IM M5 := IM.wrow iM4 hM5 (by unfold okrow; omega)
  have fM5 : Fr (fun c => c = 97 ∨ c = 99) M M5 := Fr.wr fM4 hM5 (by first | decide | omega | (dsimp only; omega))
  have q99_0_M5 : (M5 99 0 = M 99 0) := (show M5 99 0 = M4 99 0 by rw [hM5]; exact mu_ne _ _ (by first | decide | omega)).trans q99_0_M4
  have q99_3_M5 : (M5 99 3 = M 99 3) := (show M5 99 3 = M4 99 3 by rw [hM5]; exact mu_ne _ _ (by first | decide | omega)).trans q99_3_M4
  have q100_0_M5 : id (M5 100 0 = M 100 0) := (show M5 100 0 = M4 100 0 by rw [hM5]; exact mu_ne _ _ (by first | decide | omega)).trans q100_0_M4
  have q100_1_M5 : id (M5 100 1 = M 100 1) := (show M5 100 1 = M4 100 1 by rw [hM5]; exact mu_ne _ _ (by first | decide | omega)).trans q100_1_M4
  have q100_2_M5 : id (M5 100 2 = M 100 2) := (show M5 100 2 = M4 100 2 by rw [hM5]; exact mu_ne _ _ (by first | decide | omega)).trans q100_2_M4
  have q100_3_M5 : id (M5 100 3 = M 100 3) := (show M5 100 3 = M4 100 3 by rw [hM5]; exact mu_ne _ _ (by first | decide | omega)).trans q100_3_M4
  have q100_49_M5 : id (M5 100 49 = M 100 49) := (show M5 100 49 = M4 100 49 by rw [hM5]; exact mu_ne _ _ (by first | decide | omega)).trans q100_49_M4
  have q100_50_M5 : id (M5 100 50 = M 100 50) := (show M5 100 50 = M4 100 50 by rw [hM5]; exact mu_ne _ _ (by first | decide | omega)).trans q100_50_M4
  have q100_51_M5 : id (M5 100 51 = M 100 51) := (show M5 100 51 = M4 100 51 by rw [hM5]; exact mu_ne _ _ (by first | decide | omega)).trans q100_51_M4
  have q100_52_M5 : id (M5 100 52 = M 100 52) := (show M5 100 52 = M4 100 52 by rw [hM5]; exact mu_ne _ _ (by first | decide | omega)).trans q100_52_M4
  have q103_0_M5 : id (M5 103 0 = M 103 0) := (show M5 103 0 = M4 103 0 by rw [hM5]; exact mu_ne _ _ (by first | decide | omega)).trans q103_0_M4
  have q103_1_M5 : id (M5 103 1 = M 103 1) := (show M5 103 1 = M4 103 1 by rw [hM5]; exact mu_ne _ _ (by first | decide | omega)).trans q103_1_M4
  have q97_12_M5 : (M5 97 12 = M 97 12) := (show M5 97 12 = M4 97 12 by rw [hM5]; exact mu_ne _ _ (by first | decide | omega)).trans q97_12_M4
  have q97_17_M5 : (M5 97 17 = M 97 17) := (show M5 97 17 = M4 97 17 by rw [hM5]; exact mu_ne _ _ (by first | decide | omega)).trans q97_17_M4
  have q97_33_M5 : (M5 97 33 = M 97 33) := (show M5 97 33 = M4 97 33 by rw [hM5]; exact mu_ne _ _ (by first | decide | omega)).trans q97_33_M4
  have q97_10_M5 : (M5 97 10 = M 97 10) := (show M5 97 10 = M4 97 10 by rw [hM5]; exact mu_ne _ _ (by first | decide | omega)).trans q97_10_M4
  have q97_44_M5 : (M5 97 44 = M 97 44) := (show M5 97 44 = M4 97 44 by rw [hM5]; exact mu_ne _ _ (by first | decide | omega)).trans q97_44_M4
  have q97_1_M5 : (M5 97 1 = M 97 1) := (show M5 97 1 = M4 97 1 by rw [hM5]; exact mu_ne _ _ (by first | decide | omega)).trans q97_1_M4
  have wM5_99_1 : M5 99 1 = M4 99 1 := by rw [hM5]; exact mu_ne _ _ (by first | decide | omega)
  have xM5_97_0 : M5 97 0 = 0 := (show M5 97 0 = M4 97 0 by rw [hM5]; exact mu_ne _ _ (by first | decide | omega)).trans xM4_97_0
  have xM5_99_1 : M5 99 1 = 0 := (show M5 99 1 = M4 99 1 by rw [hM5]; exact mu_ne _ _ (by first | decide | omega)).trans xM4_99_1
  have xM5_99_2 : M5 99 2 = 0 := by rw [hM5]; exact mu_at _ _ _ _
  have rkM5 : ∀ k : Nat, 4 ≤ k → k < 13 → M5 99 k = M 99 k := fun k hk1 hk2 => by rw [hM5, mu_ne _ _ (fun _ => by omega)]; exact rkM4 k hk1 hk2
  have k98M5 : M5 98 = M 98 := (show M5 98 = M4 98 by rw [hM5]; exact mu_cell _ _ (by decide)).trans k98M4
  refine g_iload_n (pc' := 34) 0 dX10_wash_33 rfl rfl ?_
  refine g_ireturn dX10_wash_34 ?_
  exact ⟨iM5, fM5, q99_0_M5, q99_3_M5, q100_0_M5, q100_1_M5, q100_2_M5, q100_3_M5, q100_49_M5, q100_50_M5, q100_51_M5, q100_52_M5, q103_0_M5, q103_1_M5, q97_12_M5, q97_17_M5, q97_33_M5, q97_10_M5, q97_44_M5, q97_1_M5, by omega, rkM5⟩
set_option maxHeartbeats 4000000 in
set_option maxRecDepth 100000 in
theorem c_X10_tasting_x (X : Cx) (M : Mm) (hi : IM M) (a : Int) (ha : inI a) (b : Int) (hb : inI b) (c : Int) (hc : inI c) : Con X 12 yX10_tasting cX10_tasting 5 (some .int) [vr X 97, vi a, vi b, vi c] M (Qi (fun r M1 => IM M1 ∧ Fr (fun c => c = 97 ∨ c = 98 ∨ c = 99) M M1 ∧ M1 99 0 = M 99 0 ∧ M1 99 1 = M 99 1 ∧ M1 99 3 = M 99 3 ∧ M1 100 0 = M 100 0 ∧ M1 100 1 = M 100 1 ∧ M1 100 2 = M 100 2 ∧ M1 100 3 = M 100 3 ∧ M1 100 49 = M 100 49 ∧ M1 100 50 = M 100 50 ∧ M1 100 51 = M 100 51 ∧ M1 100 52 = M 100 52 ∧ M1 103 0 = M 103 0 ∧ M1 103 1 = M 103 1 ∧ M1 97 12 = M 97 12 ∧ M1 97 17 = M 97 17 ∧ M1 97 33 = M 97 33 ∧ M1 97 10 = M 97 10 ∧ M1 97 44 = M 97 44 ∧ ((((b < 0 ∨ 3 < b ∨ c < 0 ∨ 100 < c) → r = -1 ∧ M1 99 2 = M 99 2) ∧ (0 ≤ b → b ≤ 3 → 0 ≤ c → c ≤ 100 → (a < 0 ∨ M 99 0 ≤ a) → r = -2 ∧ M1 99 2 = M 99 2) ∧ (0 ≤ b → b ≤ 3 → 0 ≤ c → c ≤ 100 → 0 ≤ a → a < M 99 0 → 6 ≤ M 99 2 → r = -5 ∧ M1 99 2 = M 99 2) ∧ (0 ≤ b → b ≤ 3 → 0 ≤ c → c ≤ 100 → 0 ≤ a → a < M 99 0 → M 99 2 < 6 → r = M 99 2 + 1 ∧ M1 99 2 = M 99 2 + 1)) ∧ (∀ k : Nat, 4 ≤ k → k < 13 → M1 99 k = M 99 k) ∧ M1 97 1 = ngv r ∧ M1 98 = telF (M 98) r))) := by
  refine Con.ofG rfl (Nat.le_of_ble_eq_true rfl) ?_
  show G X 12 RX10 cX10_tasting 5 (some .int) (Qi (fun r M1 => IM M1 ∧ Fr (fun c => c = 97 ∨ c = 98 ∨ c = 99) M M1 ∧ M1 99 0 = M 99 0 ∧ M1 99 1 = M 99 1 ∧ M1 99 3 = M 99 3 ∧ M1 100 0 = M 100 0 ∧ M1 100 1 = M 100 1 ∧ M1 100 2 = M 100 2 ∧ M1 100 3 = M 100 3 ∧ M1 100 49 = M 100 49 ∧ M1 100 50 = M 100 50 ∧ M1 100 51 = M 100 51 ∧ M1 100 52 = M 100 52 ∧ M1 103 0 = M 103 0 ∧ M1 103 1 = M 103 1 ∧ M1 97 12 = M 97 12 ∧ M1 97 17 = M 97 17 ∧ M1 97 33 = M 97 33 ∧ M1 97 10 = M 97 10 ∧ M1 97 44 = M 97 44 ∧ ((((b < 0 ∨ 3 < b ∨ c < 0 ∨ 100 < c) → r = -1 ∧ M1 99 2 = M 99 2) ∧ (0 ≤ b → b ≤ 3 → 0 ≤ c → c ≤ 100 → (a < 0 ∨ M 99 0 ≤ a) → r = -2 ∧ M1 99 2 = M 99 2) ∧ (0 ≤ b → b ≤ 3 → 0 ≤ c → c ≤ 100 → 0 ≤ a → a < M 99 0 → 6 ≤ M 99 2 → r = -5 ∧ M1 99 2 = M 99 2) ∧ (0 ≤ b → b ≤ 3 → 0 ≤ c → c ≤ 100 → 0 ≤ a → a < M 99 0 → M 99 2 < 6 → r = M 99 2 + 1 ∧ M1 99 2 = M 99 2 + 1)) ∧ (∀ k : Nat, 4 ≤ k → k < 13 → M1 99 k = M 99 k) ∧ M1 97 1 = ngv r ∧ M1 98 = telF (M 98) r))) 0 [(0, vr X 97), (1, vi a), (2, vi b), (3, vi c)] [] M
  have p0 := hi.1.1
  have p1 := hi.1.2.1
  have p2 := hi.1.2.2.1
  have p3 := hi.1.2.2.2.1
  have p12 := hi.2.2.2.1
  refine g_aload_n (pc' := 1) 0 dX10_tasting_0 rfl rfl ?_
  refine g_iconst (pc' := 2) dX10_tasting_1 rfl ?_
  refine g_putI (pc' := 5) dX10_tasting_2 rfl p_X10_77 rfl rfl (by decide) (fun M1 hM1 => ?_)
  have iM1 : IM M1 := IM.wr hi hM1 (by unfold okv; first | decide | omega)
  have fM1 : Fr (fun c => c = 97 ∨ c = 98 ∨ c = 99) M M1 := Fr.wr Fr.rf hM1 (by first | decide | omega | (dsimp only; omega))
  have q99_0_M1 : (M1 99 0 = M 99 0) := (show M1 99 0 = M 99 0 by rw [hM1]; exact mu_ne _ _ (by first | decide | omega))
  have q99_1_M1 : (M1 99 1 = M 99 1) := (show M1 99 1 = M 99 1 by rw [hM1]; exact mu_ne _ _ (by first | decide | omega))
  have q99_3_M1 : (M1 99 3 = M 99 3) := (show M1 99 3 = M 99 3 by rw [hM1]; exact mu_ne _ _ (by first | decide | omega))
  have q100_0_M1 : id (M1 100 0 = M 100 0) := (show M1 100 0 = M 100 0 by rw [hM1]; exact mu_ne _ _ (by first | decide | omega))
  have q100_1_M1 : id (M1 100 1 = M 100 1) := (show M1 100 1 = M 100 1 by rw [hM1]; exact mu_ne _ _ (by first | decide | omega))
  have q100_2_M1 : id (M1 100 2 = M 100 2) := (show M1 100 2 = M 100 2 by rw [hM1]; exact mu_ne _ _ (by first | decide | omega))
  have q100_3_M1 : id (M1 100 3 = M 100 3) := (show M1 100 3 = M 100 3 by rw [hM1]; exact mu_ne _ _ (by first | decide | omega))
  have q100_49_M1 : id (M1 100 49 = M 100 49) := (show M1 100 49 = M 100 49 by rw [hM1]; exact mu_ne _ _ (by first | decide | omega))
  have q100_50_M1 : id (M1 100 50 = M 100 50) := (show M1 100 50 = M 100 50 by rw [hM1]; exact mu_ne _ _ (by first | decide | omega))
  have q100_51_M1 : id (M1 100 51 = M 100 51) := (show M1 100 51 = M 100 51 by rw [hM1]; exact mu_ne _ _ (by first | decide | omega))
  have q100_52_M1 : id (M1 100 52 = M 100 52) := (show M1 100 52 = M 100 52 by rw [hM1]; exact mu_ne _ _ (by first | decide | omega))
  have q103_0_M1 : id (M1 103 0 = M 103 0) := (show M1 103 0 = M 103 0 by rw [hM1]; exact mu_ne _ _ (by first | decide | omega))
  have q103_1_M1 : id (M1 103 1 = M 103 1) := (show M1 103 1 = M 103 1 by rw [hM1]; exact mu_ne _ _ (by first | decide | omega))
  have q97_12_M1 : (M1 97 12 = M 97 12) := (show M1 97 12 = M 97 12 by rw [hM1]; exact mu_ne _ _ (by first | decide | omega))
  have q97_17_M1 : (M1 97 17 = M 97 17) := (show M1 97 17 = M 97 17 by rw [hM1]; exact mu_ne _ _ (by first | decide | omega))
  have q97_33_M1 : (M1 97 33 = M 97 33) := (show M1 97 33 = M 97 33 by rw [hM1]; exact mu_ne _ _ (by first | decide | omega))
  have q97_10_M1 : (M1 97 10 = M 97 10) := (show M1 97 10 = M 97 10 by rw [hM1]; exact mu_ne _ _ (by first | decide | omega))
  have q97_44_M1 : (M1 97 44 = M 97 44) := (show M1 97 44 = M 97 44 by rw [hM1]; exact mu_ne _ _ (by first | decide | omega))
  have q99_2_M1 : (M1 99 2 = M 99 2) := (show M1 99 2 = M 99 2 by rw [hM1]; exact mu_ne _ _ (by first | decide | omega))
  have q97_1_M1 : (M1 97 1 = M 97 1) := (show M1 97 1 = M 97 1 by rw [hM1]; exact mu_ne _ _ (by first | decide | omega))
  have wM1_99_2 : M1 99 2 = M 99 2 := by rw [hM1]; exact mu_ne _ _ (by first | decide | omega)
  have wM1_97_1 : M1 97 1 = M 97 1 := by rw [hM1]; exact mu_ne _ _ (by first | decide | omega)
  have wM1_97_1 : M1 97 1 = M 97 1 := by rw [hM1]; exact mu_ne _ _ (by first | decide | omega)
  have xM1_97_0 : M1 97 0 = 0 := by rw [hM1]; exact mu_at _ _ _ _
  have rkM1 : ∀ k : Nat, 4 ≤ k → k < 13 → M1 99 k = M 99 k := fun k hk1 hk2 => by rw [hM1, mu_cell _ _ (by decide)]
  have k98M1 : M1 98 = M 98 := (show M1 98 = M 98 by rw [hM1]; exact mu_cell _ _ (by decide))
  refine g_iload_n (pc' := 6) 2 dX10_tasting_5 rfl rfl ?_
  refine g_callSip (pc' := 9) (As := [vi b]) (S := []) dX10_tasting_6 rfl m_X10_105 w_X10_isStuff (c_X10_isStuff X M1 b hb) rfl (by decide) (by decide) rfl (Nat.le_of_ble_eq_true rfl) (fun z3 q2 => ?_)
  refine g_if_eq (pc' := 12) (tgt := 24) ⟨by omega, by omega⟩ dX10_tasting_9 rfl rfl (fun c4 => ?_) (fun c4 => ?_)
  · replace q2 := q2.resolve_left (fun h => absurd (c4.symm.trans h.1) (by decide))
    refine g_aload_n (pc' := 25) 0 dX10_tasting_24 rfl rfl ?_
    refine g_iconst (pc' := 26) dX10_tasting_25 rfl ?_
    refine g_callVi (pc' := 29) (As := [vi (-1)]) (b := 97) (S := []) dX10_tasting_26 rfl m_X10_87 w_X10_tell (c_X10_tell_x X M1 iM1 (-1) (by decide) (by omega)) rfl ⟨_, _, _, rfl, rfl, rfl⟩ (by decide) (by decide) rfl (Nat.le_of_ble_eq_true rfl) (fun z6 M7 q5 => ?_)
    obtain ⟨iM7, fM70, eM7_99_0, eM7_99_1, eM7_99_2, eM7_99_3, eM7_100_0, eM7_100_1, eM7_100_2, eM7_100_3, eM7_100_49, eM7_100_50, eM7_100_51, eM7_100_52, eM7_103_0, eM7_103_1, eM7_97_12, eM7_97_17, eM7_97_33, eM7_97_10, eM7_97_44, pM7⟩ := q5
    have fM7 : Fr (fun c => c = 97 ∨ c = 98 ∨ c = 99) M M7 := Fr.tr fM1 fM70 fi_30
    have q99_0_M7 : (M7 99 0 = M 99 0) := eM7_99_0.trans q99_0_M1
    have q99_1_M7 : (M7 99 1 = M 99 1) := eM7_99_1.trans q99_1_M1
    have q99_3_M7 : (M7 99 3 = M 99 3) := eM7_99_3.trans q99_3_M1
    have q100_0_M7 : id (M7 100 0 = M 100 0) := eM7_100_0.trans q100_0_M1
    have q100_1_M7 : id (M7 100 1 = M 100 1) := eM7_100_1.trans q100_1_M1
    have q100_2_M7 : id (M7 100 2 = M 100 2) := eM7_100_2.trans q100_2_M1
    have q100_3_M7 : id (M7 100 3 = M 100 3) := eM7_100_3.trans q100_3_M1
    have q100_49_M7 : id (M7 100 49 = M 100 49) := eM7_100_49.trans q100_49_M1
    have q100_50_M7 : id (M7 100 50 = M 100 50) := eM7_100_50.trans q100_50_M1
    have q100_51_M7 : id (M7 100 51 = M 100 51) := eM7_100_51.trans q100_51_M1
    have q100_52_M7 : id (M7 100 52 = M 100 52) := eM7_100_52.trans q100_52_M1
    have q103_0_M7 : id (M7 103 0 = M 103 0) := eM7_103_0.trans q103_0_M1
    have q103_1_M7 : id (M7 103 1 = M 103 1) := eM7_103_1.trans q103_1_M1
    have q97_12_M7 : (M7 97 12 = M 97 12) := eM7_97_12.trans q97_12_M1
    have q97_17_M7 : (M7 97 17 = M 97 17) := eM7_97_17.trans q97_17_M1
    have q97_33_M7 : (M7 97 33 = M 97 33) := eM7_97_33.trans q97_33_M1
    have q97_10_M7 : (M7 97 10 = M 97 10) := eM7_97_10.trans q97_10_M1
    have q97_44_M7 : (M7 97 44 = M 97 44) := eM7_97_44.trans q97_44_M1
    have q99_2_M7 : (M7 99 2 = M 99 2) := eM7_99_2.trans q99_2_M1
    have wM7_99_2 : M7 99 2 = M1 99 2 := eM7_99_2
    clear eM7_100_0 eM7_100_1 eM7_100_2 eM7_100_3 eM7_100_49 eM7_100_50 eM7_100_51 eM7_100_52 eM7_103_0 eM7_103_1
    obtain ⟨anM7, asM7, a98M7⟩ := pM7
    rw [k98M1] at a98M7
    subst anM7
    have t99 := fM70 99 (by decide)
    refine g_ireturn dX10_tasting_29 ?_
    exact ⟨iM7, fM7, q99_0_M7, q99_1_M7, q99_3_M7, q100_0_M7, q100_1_M7, q100_2_M7, q100_3_M7, q100_49_M7, q100_50_M7, q100_51_M7, q100_52_M7, q103_0_M7, q103_1_M7, q97_12_M7, q97_17_M7, q97_33_M7, q97_10_M7, q97_44_M7, by omega, fun k hk1 hk2 => by rw [t99]; exact rkM1 k hk1 hk2, asM7, a98M7⟩
  · replace q2 := q2.resolve_right (fun h => c4 h.1)
    refine g_iload_n (pc' := 13) 3 dX10_tasting_12 rfl rfl ?_
    refine g_i2l (pc' := 14) hc dX10_tasting_13 rfl ?_
    refine g_lconst (pc' := 15) (v := 0) dX10_tasting_14 rfl (by decide) ?_
    refine g_ldc2 (pc' := 18) (v := 100) dX10_tasting_15 rfl k_X10_110 ?_
    refine g_callSip (pc' := 21) (As := [vl c, vl 0, vl 100]) (S := []) dX10_tasting_18 rfl m_X10_83 w_X10_in (c_X10_in X M1 c ⟨by omega, by omega⟩ 0 (by decide) 100 (by decide)) rfl (by decide) (by decide) rfl (Nat.le_of_ble_eq_true rfl) (fun z9 q8 => ?_)
    refine g_if_ne (pc' := 24) (tgt := 30) ⟨by omega, by omega⟩ dX10_tasting_21 rfl rfl (fun c10 => ?_) (fun c10 => ?_)
    · replace q8 := q8.resolve_right (fun h => c10 h.1)
      refine g_aload_n (pc' := 31) 0 dX10_tasting_30 rfl rfl ?_
      refine g_iload_n (pc' := 32) 1 dX10_tasting_31 rfl rfl ?_
      refine g_callVip (pc' := 35) (As := [vi a]) (b := 97) (S := []) dX10_tasting_32 rfl m_X10_102 w_X10_isGlass (c_X10_isGlass X M1 iM1 a ha) rfl ⟨_, _, _, rfl, rfl, rfl⟩ (by decide) (by decide) rfl (Nat.le_of_ble_eq_true rfl) (fun z12 q11 => ?_)
      refine g_if_ne (pc' := 38) (tgt := 45) ⟨by omega, by omega⟩ dX10_tasting_35 rfl rfl (fun c13 => ?_) (fun c13 => ?_)
      · replace q11 := q11.resolve_right (fun h => c13 h.1)
        refine g_aload_n (pc' := 46) 0 dX10_tasting_45 rfl rfl ?_
        refine g_getR (pc' := 49) dX10_tasting_46 rfl f_X10_13 rfl rfl ?_
        refine g_iconst (pc' := 50) dX10_tasting_49 rfl ?_
        refine g_iald (pc' := 51) dX10_tasting_50 rfl rfl (by decide) (by decide) (fun v14 ev14 rv14 => ?_)
        have ev14 : v14 = M1 99 2 := ev14
        have bv14 : 0 ≤ v14 ∧ v14 ≤ 6 := by rw [ev14]; exact iM1.1.2.2.1
        have av14 : v14 = M 99 2 := ev14.trans q99_2_M1
        refine g_istore (pc' := 53) (L' := [(4, vi v14), (0, vr X 97), (1, vi a), (2, vi b), (3, vi c)]) dX10_tasting_51 rfl (by decide) rfl ?_
        refine g_iload (pc' := 55) 0 dX10_tasting_53 rfl rfl ?_
        refine g_bipush (pc' := 57) (v := 6) dX10_tasting_55 rfl (by decide) ?_
        refine g_ic_ne (pc' := 60) (tgt := 67) rv14 (by decide) dX10_tasting_57 rfl rfl (fun c15 => ?_) (fun c15 => ?_)
        · refine g_aload_n (pc' := 68) 1 dX10_tasting_67 rfl rfl ?_
          refine g_getR (pc' := 71) dX10_tasting_68 rfl f_X10_13 rfl rfl ?_
          refine g_bipush (pc' := 73) (v := 13) dX10_tasting_71 rfl (by decide) ?_
          refine g_iconst (pc' := 74) dX10_tasting_73 rfl ?_
          refine g_iload (pc' := 76) 0 dX10_tasting_74 rfl rfl ?_
          refine g_imul (pc' := 77) dX10_tasting_76 rfl ?_
          refine g_iadd (pc' := 78) dX10_tasting_77 rfl ?_
          refine g_iload_n (pc' := 79) 2 dX10_tasting_78 rfl rfl ?_
          refine g_iast (pc' := 80) dX10_tasting_79 rfl rfl (by omega) (by omega) ha (fun M16 hM16 => ?_)
          have iM16 : IM M16 := IM.wrow iM1 hM16 (by unfold okrow; omega)
          have fM16 : Fr (fun c => c = 97 ∨ c = 98 ∨ c = 99) M M16 := Fr.wr fM1 hM16 (by first | decide | omega | (dsimp only; omega))
          have q99_0_M16 : (M16 99 0 = M 99 0) := (show M16 99 0 = M1 99 0 by rw [hM16]; exact mu_ne _ _ (by first | decide | omega)).trans q99_0_M1
          have q99_1_M16 : (M16 99 1 = M 99 1) := (show M16 99 1 = M1 99 1 by rw [hM16]; exact mu_ne _ _ (by first | decide | omega)).trans q99_1_M1
          have q99_3_M16 : (M16 99 3 = M 99 3) := (show M16 99 3 = M1 99 3 by rw [hM16]; exact mu_ne _ _ (by first | decide | omega)).trans q99_3_M1
          have q100_0_M16 : id (M16 100 0 = M 100 0) := (show M16 100 0 = M1 100 0 by rw [hM16]; exact mu_ne _ _ (by first | decide | omega)).trans q100_0_M1
          have q100_1_M16 : id (M16 100 1 = M 100 1) := (show M16 100 1 = M1 100 1 by rw [hM16]; exact mu_ne _ _ (by first | decide | omega)).trans q100_1_M1
          have q100_2_M16 : id (M16 100 2 = M 100 2) := (show M16 100 2 = M1 100 2 by rw [hM16]; exact mu_ne _ _ (by first | decide | omega)).trans q100_2_M1
          have q100_3_M16 : id (M16 100 3 = M 100 3) := (show M16 100 3 = M1 100 3 by rw [hM16]; exact mu_ne _ _ (by first | decide | omega)).trans q100_3_M1
          have q100_49_M16 : id (M16 100 49 = M 100 49) := (show M16 100 49 = M1 100 49 by rw [hM16]; exact mu_ne _ _ (by first | decide | omega)).trans q100_49_M1
          have q100_50_M16 : id (M16 100 50 = M 100 50) := (show M16 100 50 = M1 100 50 by rw [hM16]; exact mu_ne _ _ (by first | decide | omega)).trans q100_50_M1
          have q100_51_M16 : id (M16 100 51 = M 100 51) := (show M16 100 51 = M1 100 51 by rw [hM16]; exact mu_ne _ _ (by first | decide | omega)).trans q100_51_M1
          have q100_52_M16 : id (M16 100 52 = M 100 52) := (show M16 100 52 = M1 100 52 by rw [hM16]; exact mu_ne _ _ (by first | decide | omega)).trans q100_52_M1
          have q103_0_M16 : id (M16 103 0 = M 103 0) := (show M16 103 0 = M1 103 0 by rw [hM16]; exact mu_ne _ _ (by first | decide | omega)).trans q103_0_M1
          have q103_1_M16 : id (M16 103 1 = M 103 1) := (show M16 103 1 = M1 103 1 by rw [hM16]; exact mu_ne _ _ (by first | decide | omega)).trans q103_1_M1
          have q97_12_M16 : (M16 97 12 = M 97 12) := (show M16 97 12 = M1 97 12 by rw [hM16]; exact mu_ne _ _ (by first | decide | omega)).trans q97_12_M1
          have q97_17_M16 : (M16 97 17 = M 97 17) := (show M16 97 17 = M1 97 17 by rw [hM16]; exact mu_ne _ _ (by first | decide | omega)).trans q97_17_M1
          have q97_33_M16 : (M16 97 33 = M 97 33) := (show M16 97 33 = M1 97 33 by rw [hM16]; exact mu_ne _ _ (by first | decide | omega)).trans q97_33_M1
          have q97_10_M16 : (M16 97 10 = M 97 10) := (show M16 97 10 = M1 97 10 by rw [hM16]; exact mu_ne _ _ (by first | decide | omega)).trans q97_10_M1
          have q97_44_M16 : (M16 97 44 = M 97 44) := (show M16 97 44 = M1 97 44 by rw [hM16]; exact mu_ne _ _ (by first | decide | omega)).trans q97_44_M1
          have q99_2_M16 : (M16 99 2 = M 99 2) := (show M16 99 2 = M1 99 2 by rw [hM16]; exact mu_ne _ _ (by first | decide | omega)).trans q99_2_M1
          have q97_1_M16 : (M16 97 1 = M 97 1) := (show M16 97 1 = M1 97 1 by rw [hM16]; exact mu_ne _ _ (by first | decide | omega)).trans q97_1_M1
          have wM16_99_2 : M16 99 2 = M1 99 2 := by rw [hM16]; exact mu_ne _ _ (by first | decide | omega)
          have wM16_97_1 : M16 97 1 = M1 97 1 := by rw [hM16]; exact mu_ne _ _ (by first | decide | omega)
          have wM16_97_1 : M16 97 1 = M1 97 1 := by rw [hM16]; exact mu_ne _ _ (by first | decide | omega)
          have xM16_97_0 : M16 97 0 = 0 := (show M16 97 0 = M1 97 0 by rw [hM16]; exact mu_ne _ _ (by first | decide | omega)).trans xM1_97_0
          have rkM16 : ∀ k : Nat, 4 ≤ k → k < 13 → M16 99 k = M 99 k := fun k hk1 hk2 => by rw [hM16, mu_ne _ _ (fun _ => by omega)]; exact rkM1 k hk1 hk2
          have k98M16 : M16 98 = M 98 := (show M16 98 = M1 98 by rw [hM16]; exact mu_cell _ _ (by decide)).trans k98M1
          refine g_aload_n (pc' := 81) 1 dX10_tasting_80 rfl rfl ?_
          refine g_getR (pc' := 84) dX10_tasting_81 rfl f_X10_13 rfl rfl ?_
          refine g_bipush (pc' := 86) (v := 13) dX10_tasting_84 rfl (by decide) ?_
          refine g_iconst (pc' := 87) dX10_tasting_86 rfl ?_
          refine g_iload (pc' := 89) 0 dX10_tasting_87 rfl rfl ?_
          refine g_imul (pc' := 90) dX10_tasting_89 rfl ?_
          refine g_iadd (pc' := 91) dX10_tasting_90 rfl ?_
          refine g_iconst (pc' := 92) dX10_tasting_91 rfl ?_
          refine g_iadd (pc' := 93) dX10_tasting_92 rfl ?_
          refine g_iload_n (pc' := 94) 3 dX10_tasting_93 rfl rfl ?_
          refine g_iast (pc' := 95) dX10_tasting_94 rfl rfl (by omega) (by omega) hb (fun M17 hM17 => ?_)
          have iM17 : IM M17 := IM.wrow iM16 hM17 (by unfold okrow; omega)
          have fM17 : Fr (fun c => c = 97 ∨ c = 98 ∨ c = 99) M M17 := Fr.wr fM16 hM17 (by first | decide | omega | (dsimp only; omega))
          have q99_0_M17 : (M17 99 0 = M 99 0) := (show M17 99 0 = M16 99 0 by rw [hM17]; exact mu_ne _ _ (by first | decide | omega)).trans q99_0_M16
          have q99_1_M17 : (M17 99 1 = M 99 1) := (show M17 99 1 = M16 99 1 by rw [hM17]; exact mu_ne _ _ (by first | decide | omega)).trans q99_1_M16
          have q99_3_M17 : (M17 99 3 = M 99 3) := (show M17 99 3 = M16 99 3 by rw [hM17]; exact mu_ne _ _ (by first | decide | omega)).trans q99_3_M16
          have q100_0_M17 : id (M17 100 0 = M 100 0) := (show M17 100 0 = M16 100 0 by rw [hM17]; exact mu_ne _ _ (by first | decide | omega)).trans q100_0_M16
          have q100_1_M17 : id (M17 100 1 = M 100 1) := (show M17 100 1 = M16 100 1 by rw [hM17]; exact mu_ne _ _ (by first | decide | omega)).trans q100_1_M16
          have q100_2_M17 : id (M17 100 2 = M 100 2) := (show M17 100 2 = M16 100 2 by rw [hM17]; exact mu_ne _ _ (by first | decide | omega)).trans q100_2_M16
          have q100_3_M17 : id (M17 100 3 = M 100 3) := (show M17 100 3 = M16 100 3 by rw [hM17]; exact mu_ne _ _ (by first | decide | omega)).trans q100_3_M16
          have q100_49_M17 : id (M17 100 49 = M 100 49) := (show M17 100 49 = M16 100 49 by rw [hM17]; exact mu_ne _ _ (by first | decide | omega)).trans q100_49_M16
          have q100_50_M17 : id (M17 100 50 = M 100 50) := (show M17 100 50 = M16 100 50 by rw [hM17]; exact mu_ne _ _ (by first | decide | omega)).trans q100_50_M16
          have q100_51_M17 : id (M17 100 51 = M 100 51) := (show M17 100 51 = M16 100 51 by rw [hM17]; exact mu_ne _ _ (by first | decide | omega)).trans q100_51_M16
          have q100_52_M17 : id (M17 100 52 = M 100 52) := (show M17 100 52 = M16 100 52 by rw [hM17]; exact mu_ne _ _ (by first | decide | omega)).trans q100_52_M16
          have q103_0_M17 : id (M17 103 0 = M 103 0) := (show M17 103 0 = M16 103 0 by rw [hM17]; exact mu_ne _ _ (by first | decide | omega)).trans q103_0_M16
          have q103_1_M17 : id (M17 103 1 = M 103 1) := (show M17 103 1 = M16 103 1 by rw [hM17]; exact mu_ne _ _ (by first | decide | omega)).trans q103_1_M16
          have q97_12_M17 : (M17 97 12 = M 97 12) := (show M17 97 12 = M16 97 12 by rw [hM17]; exact mu_ne _ _ (by first | decide | omega)).trans q97_12_M16
          have q97_17_M17 : (M17 97 17 = M 97 17) := (show M17 97 17 = M16 97 17 by rw [hM17]; exact mu_ne _ _ (by first | decide | omega)).trans q97_17_M16
          have q97_33_M17 : (M17 97 33 = M 97 33) := (show M17 97 33 = M16 97 33 by rw [hM17]; exact mu_ne _ _ (by first | decide | omega)).trans q97_33_M16
          have q97_10_M17 : (M17 97 10 = M 97 10) := (show M17 97 10 = M16 97 10 by rw [hM17]; exact mu_ne _ _ (by first | decide | omega)).trans q97_10_M16
          have q97_44_M17 : (M17 97 44 = M 97 44) := (show M17 97 44 = M16 97 44 by rw [hM17]; exact mu_ne _ _ (by first | decide | omega)).trans q97_44_M16
          have q99_2_M17 : (M17 99 2 = M 99 2) := (show M17 99 2 = M16 99 2 by rw [hM17]; exact mu_ne _ _ (by first | decide | omega)).trans q99_2_M16
          have q97_1_M17 : (M17 97 1 = M 97 1) := (show M17 97 1 = M16 97 1 by rw [hM17]; exact mu_ne _ _ (by first | decide | omega)).trans q97_1_M16
          have wM17_99_2 : M17 99 2 = M16 99 2 := by rw [hM17]; exact mu_ne _ _ (by first | decide | omega)
          have wM17_97_1 : M17 97 1 = M16 97 1 := by rw [hM17]; exact mu_ne _ _ (by first | decide | omega)
          have wM17_97_1 : M17 97 1 = M16 97 1 := by rw [hM17]; exact mu_ne _ _ (by first | decide | omega)
          have xM17_97_0 : M17 97 0 = 0 := (show M17 97 0 = M16 97 0 by rw [hM17]; exact mu_ne _ _ (by first | decide | omega)).trans xM16_97_0
          have rkM17 : ∀ k : Nat, 4 ≤ k → k < 13 → M17 99 k = M 99 k := fun k hk1 hk2 => by rw [hM17, mu_ne _ _ (fun _ => by omega)]; exact rkM16 k hk1 hk2
          have k98M17 : M17 98 = M 98 := (show M17 98 = M16 98 by rw [hM17]; exact mu_cell _ _ (by decide)).trans k98M16
          refine g_aload_n (pc' := 96) 1 dX10_tasting_95 rfl rfl ?_
          refine g_getR (pc' := 99) dX10_tasting_96 rfl f_X10_13 rfl rfl ?_
          refine g_bipush (pc' := 101) (v := 13) dX10_tasting_99 rfl (by decide) ?_
          refine g_iconst (pc' := 102) dX10_tasting_101 rfl ?_
          refine g_iload (pc' := 104) 0 dX10_tasting_102 rfl rfl ?_
          refine g_imul (pc' := 105) dX10_tasting_104 rfl ?_
          refine g_iadd (pc' := 106) dX10_tasting_105 rfl ?_
          refine g_iconst (pc' := 107) dX10_tasting_106 rfl ?_
          refine g_iadd (pc' := 108) dX10_tasting_107 rfl ?_
          refine g_iload_n (pc' := 109) 4 dX10_tasting_108 rfl rfl ?_
          refine g_iast (pc' := 110) dX10_tasting_109 rfl rfl (by omega) (by omega) hc (fun M18 hM18 => ?_)
          have iM18 : IM M18 := IM.wrow iM17 hM18 (by unfold okrow; omega)
          have fM18 : Fr (fun c => c = 97 ∨ c = 98 ∨ c = 99) M M18 := Fr.wr fM17 hM18 (by first | decide | omega | (dsimp only; omega))
          have q99_0_M18 : (M18 99 0 = M 99 0) := (show M18 99 0 = M17 99 0 by rw [hM18]; exact mu_ne _ _ (by first | decide | omega)).trans q99_0_M17
          have q99_1_M18 : (M18 99 1 = M 99 1) := (show M18 99 1 = M17 99 1 by rw [hM18]; exact mu_ne _ _ (by first | decide | omega)).trans q99_1_M17
          have q99_3_M18 : (M18 99 3 = M 99 3) := (show M18 99 3 = M17 99 3 by rw [hM18]; exact mu_ne _ _ (by first | decide | omega)).trans q99_3_M17
          have q100_0_M18 : id (M18 100 0 = M 100 0) := (show M18 100 0 = M17 100 0 by rw [hM18]; exact mu_ne _ _ (by first | decide | omega)).trans q100_0_M17
          have q100_1_M18 : id (M18 100 1 = M 100 1) := (show M18 100 1 = M17 100 1 by rw [hM18]; exact mu_ne _ _ (by first | decide | omega)).trans q100_1_M17
          have q100_2_M18 : id (M18 100 2 = M 100 2) := (show M18 100 2 = M17 100 2 by rw [hM18]; exact mu_ne _ _ (by first | decide | omega)).trans q100_2_M17
          have q100_3_M18 : id (M18 100 3 = M 100 3) := (show M18 100 3 = M17 100 3 by rw [hM18]; exact mu_ne _ _ (by first | decide | omega)).trans q100_3_M17
          have q100_49_M18 : id (M18 100 49 = M 100 49) := (show M18 100 49 = M17 100 49 by rw [hM18]; exact mu_ne _ _ (by first | decide | omega)).trans q100_49_M17
          have q100_50_M18 : id (M18 100 50 = M 100 50) := (show M18 100 50 = M17 100 50 by rw [hM18]; exact mu_ne _ _ (by first | decide | omega)).trans q100_50_M17
          have q100_51_M18 : id (M18 100 51 = M 100 51) := (show M18 100 51 = M17 100 51 by rw [hM18]; exact mu_ne _ _ (by first | decide | omega)).trans q100_51_M17
          have q100_52_M18 : id (M18 100 52 = M 100 52) := (show M18 100 52 = M17 100 52 by rw [hM18]; exact mu_ne _ _ (by first | decide | omega)).trans q100_52_M17
          have q103_0_M18 : id (M18 103 0 = M 103 0) := (show M18 103 0 = M17 103 0 by rw [hM18]; exact mu_ne _ _ (by first | decide | omega)).trans q103_0_M17
          have q103_1_M18 : id (M18 103 1 = M 103 1) := (show M18 103 1 = M17 103 1 by rw [hM18]; exact mu_ne _ _ (by first | decide | omega)).trans q103_1_M17
          have q97_12_M18 : (M18 97 12 = M 97 12) := (show M18 97 12 = M17 97 12 by rw [hM18]; exact mu_ne _ _ (by first | decide | omega)).trans q97_12_M17
          have q97_17_M18 : (M18 97 17 = M 97 17) := (show M18 97 17 = M17 97 17 by rw [hM18]; exact mu_ne _ _ (by first | decide | omega)).trans q97_17_M17
          have q97_33_M18 : (M18 97 33 = M 97 33) := (show M18 97 33 = M17 97 33 by rw [hM18]; exact mu_ne _ _ (by first | decide | omega)).trans q97_33_M17
          have q97_10_M18 : (M18 97 10 = M 97 10) := (show M18 97 10 = M17 97 10 by rw [hM18]; exact mu_ne _ _ (by first | decide | omega)).trans q97_10_M17
          have q97_44_M18 : (M18 97 44 = M 97 44) := (show M18 97 44 = M17 97 44 by rw [hM18]; exact mu_ne _ _ (by first | decide | omega)).trans q97_44_M17
          have q99_2_M18 : (M18 99 2 = M 99 2) := (show M18 99 2 = M17 99 2 by rw [hM18]; exact mu_ne _ _ (by first | decide | omega)).trans q99_2_M17
          have q97_1_M18 : (M18 97 1 = M 97 1) := (show M18 97 1 = M17 97 1 by rw [hM18]; exact mu_ne _ _ (by first | decide | omega)).trans q97_1_M17
          have wM18_99_2 : M18 99 2 = M17 99 2 := by rw [hM18]; exact mu_ne _ _ (by first | decide | omega)
          have wM18_97_1 : M18 97 1 = M17 97 1 := by rw [hM18]; exact mu_ne _ _ (by first | decide | omega)
          have wM18_97_1 : M18 97 1 = M17 97 1 := by rw [hM18]; exact mu_ne _ _ (by first | decide | omega)
          have xM18_97_0 : M18 97 0 = 0 := (show M18 97 0 = M17 97 0 by rw [hM18]; exact mu_ne _ _ (by first | decide | omega)).trans xM17_97_0
          have rkM18 : ∀ k : Nat, 4 ≤ k → k < 13 → M18 99 k = M 99 k := fun k hk1 hk2 => by rw [hM18, mu_ne _ _ (fun _ => by omega)]; exact rkM17 k hk1 hk2
          have k98M18 : M18 98 = M 98 := (show M18 98 = M17 98 by rw [hM18]; exact mu_cell _ _ (by decide)).trans k98M17
          refine g_aload_n (pc' := 111) 1 dX10_tasting_110 rfl rfl ?_
          refine g_getR (pc' := 114) dX10_tasting_111 rfl f_X10_13 rfl rfl ?_
          refine g_iconst (pc' := 115) dX10_tasting_114 rfl ?_
          refine g_dup2_11 (pc' := 116) dX10_tasting_115 rfl rfl rfl ?_
          refine g_iald (pc' := 117) dX10_tasting_116 rfl rfl (by decide) (by decide) (fun v19 ev19 rv19 => ?_)
          have ev19 : v19 = M18 99 2 := ev19
          have bv19 : 0 ≤ v19 ∧ v19 ≤ 6 := by rw [ev19]; exact iM18.1.2.2.1
          have av19 : v19 = M 99 2 := ev19.trans q99_2_M18
          obtain rfl : v14 = v19 := av14.trans av19.symm
          refine g_iconst (pc' := 118) dX10_tasting_117 rfl ?_
          refine g_iadd (pc' := 119) dX10_tasting_118 rfl ?_
          refine g_iast (pc' := 120) dX10_tasting_119 rfl rfl (by decide) (by decide) ⟨by omega, by omega⟩ (fun M20 hM20 => ?_)
          have hM20 : M20 = mu M18 99 2 (v14 + 1) := hM20
          have iM20 : IM M20 := IM.wrow iM18 hM20 (by unfold okrow; omega)
          have fM20 : Fr (fun c => c = 97 ∨ c = 98 ∨ c = 99) M M20 := Fr.wr fM18 hM20 (by first | decide | omega | (dsimp only; omega))
          have q99_0_M20 : (M20 99 0 = M 99 0) := (show M20 99 0 = M18 99 0 by rw [hM20]; exact mu_ne _ _ (by first | decide | omega)).trans q99_0_M18
          have q99_1_M20 : (M20 99 1 = M 99 1) := (show M20 99 1 = M18 99 1 by rw [hM20]; exact mu_ne _ _ (by first | decide | omega)).trans q99_1_M18
          have q99_3_M20 : (M20 99 3 = M 99 3) := (show M20 99 3 = M18 99 3 by rw [hM20]; exact mu_ne _ _ (by first | decide | omega)).trans q99_3_M18
          have q100_0_M20 : id (M20 100 0 = M 100 0) := (show M20 100 0 = M18 100 0 by rw [hM20]; exact mu_ne _ _ (by first | decide | omega)).trans q100_0_M18
          have q100_1_M20 : id (M20 100 1 = M 100 1) := (show M20 100 1 = M18 100 1 by rw [hM20]; exact mu_ne _ _ (by first | decide | omega)).trans q100_1_M18
          have q100_2_M20 : id (M20 100 2 = M 100 2) := (show M20 100 2 = M18 100 2 by rw [hM20]; exact mu_ne _ _ (by first | decide | omega)).trans q100_2_M18
          have q100_3_M20 : id (M20 100 3 = M 100 3) := (show M20 100 3 = M18 100 3 by rw [hM20]; exact mu_ne _ _ (by first | decide | omega)).trans q100_3_M18
          have q100_49_M20 : id (M20 100 49 = M 100 49) := (show M20 100 49 = M18 100 49 by rw [hM20]; exact mu_ne _ _ (by first | decide | omega)).trans q100_49_M18
          have q100_50_M20 : id (M20 100 50 = M 100 50) := (show M20 100 50 = M18 100 50 by rw [hM20]; exact mu_ne _ _ (by first | decide | omega)).trans q100_50_M18
          have q100_51_M20 : id (M20 100 51 = M 100 51) := (show M20 100 51 = M18 100 51 by rw [hM20]; exact mu_ne _ _ (by first | decide | omega)).trans q100_51_M18
          have q100_52_M20 : id (M20 100 52 = M 100 52) := (show M20 100 52 = M18 100 52 by rw [hM20]; exact mu_ne _ _ (by first | decide | omega)).trans q100_52_M18
          have q103_0_M20 : id (M20 103 0 = M 103 0) := (show M20 103 0 = M18 103 0 by rw [hM20]; exact mu_ne _ _ (by first | decide | omega)).trans q103_0_M18
          have q103_1_M20 : id (M20 103 1 = M 103 1) := (show M20 103 1 = M18 103 1 by rw [hM20]; exact mu_ne _ _ (by first | decide | omega)).trans q103_1_M18
          have q97_12_M20 : (M20 97 12 = M 97 12) := (show M20 97 12 = M18 97 12 by rw [hM20]; exact mu_ne _ _ (by first | decide | omega)).trans q97_12_M18
          have q97_17_M20 : (M20 97 17 = M 97 17) := (show M20 97 17 = M18 97 17 by rw [hM20]; exact mu_ne _ _ (by first | decide | omega)).trans q97_17_M18
          have q97_33_M20 : (M20 97 33 = M 97 33) := (show M20 97 33 = M18 97 33 by rw [hM20]; exact mu_ne _ _ (by first | decide | omega)).trans q97_33_M18
          have q97_10_M20 : (M20 97 10 = M 97 10) := (show M20 97 10 = M18 97 10 by rw [hM20]; exact mu_ne _ _ (by first | decide | omega)).trans q97_10_M18
          have q97_44_M20 : (M20 97 44 = M 97 44) := (show M20 97 44 = M18 97 44 by rw [hM20]; exact mu_ne _ _ (by first | decide | omega)).trans q97_44_M18
          have q97_1_M20 : (M20 97 1 = M 97 1) := (show M20 97 1 = M18 97 1 by rw [hM20]; exact mu_ne _ _ (by first | decide | omega)).trans q97_1_M18
          have wM20_97_1 : M20 97 1 = M18 97 1 := by rw [hM20]; exact mu_ne _ _ (by first | decide | omega)
          have wM20_97_1 : M20 97 1 = M18 97 1 := by rw [hM20]; exact mu_ne _ _ (by first | decide | omega)
          have xM20_97_0 : M20 97 0 = 0 := (show M20 97 0 = M18 97 0 by rw [hM20]; exact mu_ne _ _ (by first | decide | omega)).trans xM18_97_0
          have xM20_99_2 : M20 99 2 = v14 + 1 := by rw [hM20]; exact mu_at _ _ _ _
          have rkM20 : ∀ k : Nat, 4 ≤ k → k < 13 → M20 99 k = M 99 k := fun k hk1 hk2 => by rw [hM20, mu_ne _ _ (fun _ => by omega)]; exact rkM18 k hk1 hk2
          have k98M20 : M20 98 = M 98 := (show M20 98 = M18 98 by rw [hM20]; exact mu_cell _ _ (by decide)).trans k98M18
          refine g_aload_n (pc' := 121) 1 dX10_tasting_120 rfl rfl ?_
          refine g_iload (pc' := 123) 0 dX10_tasting_121 rfl rfl ?_
          refine g_iconst (pc' := 124) dX10_tasting_123 rfl ?_
          refine g_iadd (pc' := 125) dX10_tasting_124 rfl ?_
          refine g_callVi (pc' := 128) (As := [vi (v14 + 1)]) (b := 97) (S := []) dX10_tasting_125 rfl m_X10_87 w_X10_tell (c_X10_tell_x X M20 iM20 (v14 + 1) ⟨by omega, by omega⟩ (by omega)) rfl ⟨_, _, _, rfl, rfl, rfl⟩ (by decide) (by decide) rfl (Nat.le_of_ble_eq_true rfl) (fun z22 M23 q21 => ?_)
          obtain ⟨iM23, fM230, eM23_99_0, eM23_99_1, eM23_99_2, eM23_99_3, eM23_100_0, eM23_100_1, eM23_100_2, eM23_100_3, eM23_100_49, eM23_100_50, eM23_100_51, eM23_100_52, eM23_103_0, eM23_103_1, eM23_97_12, eM23_97_17, eM23_97_33, eM23_97_10, eM23_97_44, pM23⟩ := q21
          have fM23 : Fr (fun c => c = 97 ∨ c = 98 ∨ c = 99) M M23 := Fr.tr fM20 fM230 fi_30
          have q99_0_M23 : (M23 99 0 = M 99 0) := eM23_99_0.trans q99_0_M20
          have q99_1_M23 : (M23 99 1 = M 99 1) := eM23_99_1.trans q99_1_M20
          have q99_3_M23 : (M23 99 3 = M 99 3) := eM23_99_3.trans q99_3_M20
          have q100_0_M23 : id (M23 100 0 = M 100 0) := eM23_100_0.trans q100_0_M20
          have q100_1_M23 : id (M23 100 1 = M 100 1) := eM23_100_1.trans q100_1_M20
          have q100_2_M23 : id (M23 100 2 = M 100 2) := eM23_100_2.trans q100_2_M20
          have q100_3_M23 : id (M23 100 3 = M 100 3) := eM23_100_3.trans q100_3_M20
          have q100_49_M23 : id (M23 100 49 = M 100 49) := eM23_100_49.trans q100_49_M20
          have q100_50_M23 : id (M23 100 50 = M 100 50) := eM23_100_50.trans q100_50_M20
          have q100_51_M23 : id (M23 100 51 = M 100 51) := eM23_100_51.trans q100_51_M20
          have q100_52_M23 : id (M23 100 52 = M 100 52) := eM23_100_52.trans q100_52_M20
          have q103_0_M23 : id (M23 103 0 = M 103 0) := eM23_103_0.trans q103_0_M20
          have q103_1_M23 : id (M23 103 1 = M 103 1) := eM23_103_1.trans q103_1_M20
          have q97_12_M23 : (M23 97 12 = M 97 12) := eM23_97_12.trans q97_12_M20
          have q97_17_M23 : (M23 97 17 = M 97 17) := eM23_97_17.trans q97_17_M20
          have q97_33_M23 : (M23 97 33 = M 97 33) := eM23_97_33.trans q97_33_M20
          have q97_10_M23 : (M23 97 10 = M 97 10) := eM23_97_10.trans q97_10_M20
          have q97_44_M23 : (M23 97 44 = M 97 44) := eM23_97_44.trans q97_44_M20
          have wM23_99_2 : M23 99 2 = M20 99 2 := eM23_99_2
          have xM23_99_2 : M23 99 2 = v14 + 1 := eM23_99_2.trans xM20_99_2
          clear eM23_100_0 eM23_100_1 eM23_100_2 eM23_100_3 eM23_100_49 eM23_100_50 eM23_100_51 eM23_100_52 eM23_103_0 eM23_103_1
          obtain ⟨anM23, asM23, a98M23⟩ := pM23
          rw [k98M20] at a98M23
          subst anM23
          have t99 := fM230 99 (by decide)
          refine g_ireturn dX10_tasting_128 ?_
          exact ⟨iM23, fM23, q99_0_M23, q99_1_M23, q99_3_M23, q100_0_M23, q100_1_M23, q100_2_M23, q100_3_M23, q100_49_M23, q100_50_M23, q100_51_M23, q100_52_M23, q103_0_M23, q103_1_M23, q97_12_M23, q97_17_M23, q97_33_M23, q97_10_M23, q97_44_M23, by omega, fun k hk1 hk2 => by rw [t99]; exact rkM20 k hk1 hk2, asM23, a98M23⟩
        · refine g_aload_n (pc' := 61) 1 dX10_tasting_60 rfl rfl ?_
          refine g_bipush (pc' := 63) (v := (-5)) dX10_tasting_61 rfl (by decide) ?_
          refine g_callVi (pc' := 66) (As := [vi (-5)]) (b := 97) (S := []) dX10_tasting_63 rfl m_X10_87 w_X10_tell (c_X10_tell_x X M1 iM1 (-5) (by decide) (by omega)) rfl ⟨_, _, _, rfl, rfl, rfl⟩ (by decide) (by decide) rfl (Nat.le_of_ble_eq_true rfl) (fun z25 M26 q24 => ?_)
          obtain ⟨iM26, fM260, eM26_99_0, eM26_99_1, eM26_99_2, eM26_99_3, eM26_100_0, eM26_100_1, eM26_100_2, eM26_100_3, eM26_100_49, eM26_100_50, eM26_100_51, eM26_100_52, eM26_103_0, eM26_103_1, eM26_97_12, eM26_97_17, eM26_97_33, eM26_97_10, eM26_97_44, pM26⟩ := q24
          have fM26 : Fr (fun c => c = 97 ∨ c = 98 ∨ c = 99) M M26 := Fr.tr fM1 fM260 fi_30
          have q99_0_M26 : (M26 99 0 = M 99 0) := eM26_99_0.trans q99_0_M1
          have q99_1_M26 : (M26 99 1 = M 99 1) := eM26_99_1.trans q99_1_M1
          have q99_3_M26 : (M26 99 3 = M 99 3) := eM26_99_3.trans q99_3_M1
          have q100_0_M26 : id (M26 100 0 = M 100 0) := eM26_100_0.trans q100_0_M1
          have q100_1_M26 : id (M26 100 1 = M 100 1) := eM26_100_1.trans q100_1_M1
          have q100_2_M26 : id (M26 100 2 = M 100 2) := eM26_100_2.trans q100_2_M1
          have q100_3_M26 : id (M26 100 3 = M 100 3) := eM26_100_3.trans q100_3_M1
          have q100_49_M26 : id (M26 100 49 = M 100 49) := eM26_100_49.trans q100_49_M1
          have q100_50_M26 : id (M26 100 50 = M 100 50) := eM26_100_50.trans q100_50_M1
          have q100_51_M26 : id (M26 100 51 = M 100 51) := eM26_100_51.trans q100_51_M1
          have q100_52_M26 : id (M26 100 52 = M 100 52) := eM26_100_52.trans q100_52_M1
          have q103_0_M26 : id (M26 103 0 = M 103 0) := eM26_103_0.trans q103_0_M1
          have q103_1_M26 : id (M26 103 1 = M 103 1) := eM26_103_1.trans q103_1_M1
          have q97_12_M26 : (M26 97 12 = M 97 12) := eM26_97_12.trans q97_12_M1
          have q97_17_M26 : (M26 97 17 = M 97 17) := eM26_97_17.trans q97_17_M1
          have q97_33_M26 : (M26 97 33 = M 97 33) := eM26_97_33.trans q97_33_M1
          have q97_10_M26 : (M26 97 10 = M 97 10) := eM26_97_10.trans q97_10_M1
          have q97_44_M26 : (M26 97 44 = M 97 44) := eM26_97_44.trans q97_44_M1
          have q99_2_M26 : (M26 99 2 = M 99 2) := eM26_99_2.trans q99_2_M1
          have wM26_99_2 : M26 99 2 = M1 99 2 := eM26_99_2
          clear eM26_100_0 eM26_100_1 eM26_100_2 eM26_100_3 eM26_100_49 eM26_100_50 eM26_100_51 eM26_100_52 eM26_103_0 eM26_103_1
          obtain ⟨anM26, asM26, a98M26⟩ := pM26
          rw [k98M1] at a98M26
          subst anM26
          have t99 := fM260 99 (by decide)
          refine g_ireturn dX10_tasting_66 ?_
          exact ⟨iM26, fM26, q99_0_M26, q99_1_M26, q99_3_M26, q100_0_M26, q100_1_M26, q100_2_M26, q100_3_M26, q100_49_M26, q100_50_M26, q100_51_M26, q100_52_M26, q103_0_M26, q103_1_M26, q97_12_M26, q97_17_M26, q97_33_M26, q97_10_M26, q97_44_M26, by omega, fun k hk1 hk2 => by rw [t99]; exact rkM1 k hk1 hk2, asM26, a98M26⟩
      · replace q11 := q11.resolve_left (fun h => absurd (c13.symm.trans h.1) (by decide))
        refine g_aload_n (pc' := 39) 0 dX10_tasting_38 rfl rfl ?_
        refine g_bipush (pc' := 41) (v := (-2)) dX10_tasting_39 rfl (by decide) ?_
        refine g_callVi (pc' := 44) (As := [vi (-2)]) (b := 97) (S := []) dX10_tasting_41 rfl m_X10_87 w_X10_tell (c_X10_tell_x X M1 iM1 (-2) (by decide) (by omega)) rfl ⟨_, _, _, rfl, rfl, rfl⟩ (by decide) (by decide) rfl (Nat.le_of_ble_eq_true rfl) (fun z28 M29 q27 => ?_)
        obtain ⟨iM29, fM290, eM29_99_0, eM29_99_1, eM29_99_2, eM29_99_3, eM29_100_0, eM29_100_1, eM29_100_2, eM29_100_3, eM29_100_49, eM29_100_50, eM29_100_51, eM29_100_52, eM29_103_0, eM29_103_1, eM29_97_12, eM29_97_17, eM29_97_33, eM29_97_10, eM29_97_44, pM29⟩ := q27
        have fM29 : Fr (fun c => c = 97 ∨ c = 98 ∨ c = 99) M M29 := Fr.tr fM1 fM290 fi_30
        have q99_0_M29 : (M29 99 0 = M 99 0) := eM29_99_0.trans q99_0_M1
        have q99_1_M29 : (M29 99 1 = M 99 1) := eM29_99_1.trans q99_1_M1
        have q99_3_M29 : (M29 99 3 = M 99 3) := eM29_99_3.trans q99_3_M1
        have q100_0_M29 : id (M29 100 0 = M 100 0) := eM29_100_0.trans q100_0_M1
        have q100_1_M29 : id (M29 100 1 = M 100 1) := eM29_100_1.trans q100_1_M1
        have q100_2_M29 : id (M29 100 2 = M 100 2) := eM29_100_2.trans q100_2_M1
        have q100_3_M29 : id (M29 100 3 = M 100 3) := eM29_100_3.trans q100_3_M1
        have q100_49_M29 : id (M29 100 49 = M 100 49) := eM29_100_49.trans q100_49_M1
        have q100_50_M29 : id (M29 100 50 = M 100 50) := eM29_100_50.trans q100_50_M1
        have q100_51_M29 : id (M29 100 51 = M 100 51) := eM29_100_51.trans q100_51_M1
        have q100_52_M29 : id (M29 100 52 = M 100 52) := eM29_100_52.trans q100_52_M1
        have q103_0_M29 : id (M29 103 0 = M 103 0) := eM29_103_0.trans q103_0_M1
        have q103_1_M29 : id (M29 103 1 = M 103 1) := eM29_103_1.trans q103_1_M1
        have q97_12_M29 : (M29 97 12 = M 97 12) := eM29_97_12.trans q97_12_M1
        have q97_17_M29 : (M29 97 17 = M 97 17) := eM29_97_17.trans q97_17_M1
        have q97_33_M29 : (M29 97 33 = M 97 33) := eM29_97_33.trans q97_33_M1
        have q97_10_M29 : (M29 97 10 = M 97 10) := eM29_97_10.trans q97_10_M1
        have q97_44_M29 : (M29 97 44 = M 97 44) := eM29_97_44.trans q97_44_M1
        have q99_2_M29 : (M29 99 2 = M 99 2) := eM29_99_2.trans q99_2_M1
        have wM29_99_2 : M29 99 2 = M1 99 2 := eM29_99_2
        clear eM29_100_0 eM29_100_1 eM29_100_2 eM29_100_3 eM29_100_49 eM29_100_50 eM29_100_51 eM29_100_52 eM29_103_0 eM29_103_1
        obtain ⟨anM29, asM29, a98M29⟩ := pM29
        rw [k98M1] at a98M29
        subst anM29
        have t99 := fM290 99 (by decide)
        refine g_ireturn dX10_tasting_44 ?_
        exact ⟨iM29, fM29, q99_0_M29, q99_1_M29, q99_3_M29, q100_0_M29, q100_1_M29, q100_2_M29, q100_3_M29, q100_49_M29, q100_50_M29, q100_51_M29, q100_52_M29, q103_0_M29, q103_1_M29, q97_12_M29, q97_17_M29, q97_33_M29, q97_10_M29, q97_44_M29, by omega, fun k hk1 hk2 => by rw [t99]; exact rkM1 k hk1 hk2, asM29, a98M29⟩
    · replace q8 := q8.resolve_left (fun h => absurd (c10.symm.trans h.1) (by decide))
      refine g_aload_n (pc' := 25) 0 dX10_tasting_24 rfl rfl ?_
      refine g_iconst (pc' := 26) dX10_tasting_25 rfl ?_
      refine g_callVi (pc' := 29) (As := [vi (-1)]) (b := 97) (S := []) dX10_tasting_26 rfl m_X10_87 w_X10_tell (c_X10_tell_x X M1 iM1 (-1) (by decide) (by omega)) rfl ⟨_, _, _, rfl, rfl, rfl⟩ (by decide) (by decide) rfl (Nat.le_of_ble_eq_true rfl) (fun z31 M32 q30 => ?_)
      obtain ⟨iM32, fM320, eM32_99_0, eM32_99_1, eM32_99_2, eM32_99_3, eM32_100_0, eM32_100_1, eM32_100_2, eM32_100_3, eM32_100_49, eM32_100_50, eM32_100_51, eM32_100_52, eM32_103_0, eM32_103_1, eM32_97_12, eM32_97_17, eM32_97_33, eM32_97_10, eM32_97_44, pM32⟩ := q30
      have fM32 : Fr (fun c => c = 97 ∨ c = 98 ∨ c = 99) M M32 := Fr.tr fM1 fM320 fi_30
      have q99_0_M32 : (M32 99 0 = M 99 0) := eM32_99_0.trans q99_0_M1
      have q99_1_M32 : (M32 99 1 = M 99 1) := eM32_99_1.trans q99_1_M1
      have q99_3_M32 : (M32 99 3 = M 99 3) := eM32_99_3.trans q99_3_M1
      have q100_0_M32 : id (M32 100 0 = M 100 0) := eM32_100_0.trans q100_0_M1
      have q100_1_M32 : id (M32 100 1 = M 100 1) := eM32_100_1.trans q100_1_M1
      have q100_2_M32 : id (M32 100 2 = M 100 2) := eM32_100_2.trans q100_2_M1
      have q100_3_M32 : id (M32 100 3 = M 100 3) := eM32_100_3.trans q100_3_M1
      have q100_49_M32 : id (M32 100 49 = M 100 49) := eM32_100_49.trans q100_49_M1
      have q100_50_M32 : id (M32 100 50 = M 100 50) := eM32_100_50.trans q100_50_M1
      have q100_51_M32 : id (M32 100 51 = M 100 51) := eM32_100_51.trans q100_51_M1
      have q100_52_M32 : id (M32 100 52 = M 100 52) := eM32_100_52.trans q100_52_M1
      have q103_0_M32 : id (M32 103 0 = M 103 0) := eM32_103_0.trans q103_0_M1
      have q103_1_M32 : id (M32 103 1 = M 103 1) := eM32_103_1.trans q103_1_M1
      have q97_12_M32 : (M32 97 12 = M 97 12) := eM32_97_12.trans q97_12_M1
      have q97_17_M32 : (M32 97 17 = M 97 17) := eM32_97_17.trans q97_17_M1
      have q97_33_M32 : (M32 97 33 = M 97 33) := eM32_97_33.trans q97_33_M1
      have q97_10_M32 : (M32 97 10 = M 97 10) := eM32_97_10.trans q97_10_M1
      have q97_44_M32 : (M32 97 44 = M 97 44) := eM32_97_44.trans q97_44_M1
      have q99_2_M32 : (M32 99 2 = M 99 2) := eM32_99_2.trans q99_2_M1
      have wM32_99_2 : M32 99 2 = M1 99 2 := eM32_99_2
      clear eM32_100_0 eM32_100_1 eM32_100_2 eM32_100_3 eM32_100_49 eM32_100_50 eM32_100_51 eM32_100_52 eM32_103_0 eM32_103_1
      obtain ⟨anM32, asM32, a98M32⟩ := pM32
      rw [k98M1] at a98M32
      subst anM32
      have t99 := fM320 99 (by decide)
      refine g_ireturn dX10_tasting_29 ?_
      exact ⟨iM32, fM32, q99_0_M32, q99_1_M32, q99_3_M32, q100_0_M32, q100_1_M32, q100_2_M32, q100_3_M32, q100_49_M32, q100_50_M32, q100_51_M32, q100_52_M32, q103_0_M32, q103_1_M32, q97_12_M32, q97_17_M32, q97_33_M32, q97_10_M32, q97_44_M32, by omega, fun k hk1 hk2 => by rw [t99]; exact rkM1 k hk1 hk2, asM32, a98M32⟩
