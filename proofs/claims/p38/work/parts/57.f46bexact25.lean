set_option maxHeartbeats 4000000 in
set_option maxRecDepth 100000 in
theorem c_X2_readAmount_y (X : Cx) (M : Mm) (hi : IC M) (cq : Nat) (hcq : 41 ≤ cq ∧ cq ≤ 52) (K W : Nat → Int) (m i : Nat) (hts : TS M K W m) (hat : M 31 7 = (i : Int)) (him : i ≤ m) (lv : Int) (hlv : M 30 2 = lv) (hsl : 0 ≤ M 37 4 ∧ M 37 4 ≤ (i : Int)) : Con X 37 yX2_readAmount cX2_readAmount 3 (some .boolean) [vr X 30, vr X cq] M (Qi (fun r M1 => IC M1 ∧ Fr (fun c => c = 30 ∨ c = 31 ∨ c = 37 ∨ c = 39 ∨ c = 40 ∨ c = cq) M M1 ∧ M1 31 1 = M 31 1 ∧ M1 37 1 = M 37 1 ∧ ((r = 0 ∨ r = 1) ∧ ∃ (j : Nat) (lv1 : Int), M1 31 7 = (j : Int) ∧ M1 30 2 = lv1 ∧ i ≤ j ∧ j ≤ m ∧ STq (exF K W false i lv) r j lv1 ∧ (∀ q : Nat, q ≠ 5 → q ≠ 6 → M1 cq q = M cq q) ∧ (M1 cq 5 = M 37 4 ∧ M1 cq 6 = M1 37 4) ∧ (M 37 4 ≤ M1 37 4 ∧ M1 37 4 - M 37 4 ≤ (j : Int) - i) ∧ (r = 1 → CDS M M1 ∧ (lv < lv1 ∧ lv1 ≤ 50) ∧ MC (M1 39) (M1 40) (M 37 4).toNat (M1 37 4).toNat (lv1 - lv) (exM K W false i lv))))) := by
  refine Con.ofG rfl (Nat.le_of_ble_eq_true rfl) ?_
  show G X 37 RX2 cX2_readAmount 3 (some .boolean) (Qi (fun r M1 => IC M1 ∧ Fr (fun c => c = 30 ∨ c = 31 ∨ c = 37 ∨ c = 39 ∨ c = 40 ∨ c = cq) M M1 ∧ M1 31 1 = M 31 1 ∧ M1 37 1 = M 37 1 ∧ ((r = 0 ∨ r = 1) ∧ ∃ (j : Nat) (lv1 : Int), M1 31 7 = (j : Int) ∧ M1 30 2 = lv1 ∧ i ≤ j ∧ j ≤ m ∧ STq (exF K W false i lv) r j lv1 ∧ (∀ q : Nat, q ≠ 5 → q ≠ 6 → M1 cq q = M cq q) ∧ (M1 cq 5 = M 37 4 ∧ M1 cq 6 = M1 37 4) ∧ (M 37 4 ≤ M1 37 4 ∧ M1 37 4 - M 37 4 ≤ (j : Int) - i) ∧ (r = 1 → CDS M M1 ∧ (lv < lv1 ∧ lv1 ≤ 50) ∧ MC (M1 39) (M1 40) (M 37 4).toNat (M1 37 4).toNat (lv1 - lv) (exM K W false i lv))))) 0 [(0, vr X 30), (1, vr X cq)] [] M
  have hm4 := hts.m4
  have hw0 : K i = 2 → 0 ≤ W i := fun z => (hts.num him z).2
  refine g_aload_n (pc' := 1) 1 dX2_readAmount_0 rfl rfl ?_
  refine g_aload_n (pc' := 2) 0 dX2_readAmount_1 rfl rfl ?_
  refine g_getR (pc' := 5) dX2_readAmount_2 rfl f_X2_21 rfl rfl ?_
  refine g_getI (pc' := 8) dX2_readAmount_5 rfl f_X2_29 rfl rfl (fun v1 ev1 rv1 => ?_)
  have bv1 : 0 ≤ v1 ∧ v1 ≤ 400 := by rw [ev1]; exact hi.2.2.2.1.1
  refine g_putI (pc' := 11) dX2_readAmount_8 rfl p_X2_94 (clS hcq) rfl rv1 (fun M2 hM2 => ?_)
  have iM2 : IC M2 := IC.wr hi hM2 (by unfold okw isT; first | decide | omega)
  have fM2 : Fr (fun c => c = 30 ∨ c = 31 ∨ c = 37 ∨ c = 39 ∨ c = 40 ∨ c = cq) M M2 := Fr.wr Fr.rf hM2 (by first | decide | omega | (dsimp only; omega))
  have q31_1_M2 : id (M2 31 1 = M 31 1) := (show M2 31 1 = M 31 1 by rw [hM2]; exact mu_ne _ _ (by first | decide | omega))
  have q37_1_M2 : id (M2 37 1 = M 37 1) := (show M2 37 1 = M 37 1 by rw [hM2]; exact mu_ne _ _ (by first | decide | omega))
  have wM2_30_2 : M2 30 2 = M 30 2 := by rw [hM2]; exact mu_ne _ _ (by first | decide | omega)
  have wM2_31_7 : M2 31 7 = M 31 7 := by rw [hM2]; exact mu_ne _ _ (by first | decide | omega)
  have wM2_37_4 : M2 37 4 = M 37 4 := by rw [hM2]; exact mu_ne _ _ (by first | decide | omega)
  have tsM2 : TS M2 K W m := TS.fr hts (P := fun q => q = cq) (fun q hq => by rw [hM2]; exact mu_cell _ _ hq) (fun q h1 h2 => by show ¬ q = cq; omega)
  have k39M2 : M2 39 = M 39 := (show M2 39 = M 39 by rw [hM2]; exact mu_cell _ _ (by first | decide | omega))
  have k40M2 : M2 40 = M 40 := (show M2 40 = M 40 by rw [hM2]; exact mu_cell _ _ (by first | decide | omega))
  have xkM2 : M2 cq 5 = v1 := by rw [hM2]; exact mu_at _ _ _ _
  have xoM2 : ∀ q : Nat, q ≠ 5 → M2 cq q = M cq q := fun q hq => by rw [hM2]; exact mu_ne _ _ (fun _ => hq)
  refine g_aload_n (pc' := 12) 0 dX2_readAmount_11 rfl rfl ?_
  refine g_iconst (pc' := 13) dX2_readAmount_12 rfl ?_
  refine g_callVi (pc' := 16) (As := [vi 0]) (b := 30) (S := []) dX2_readAmount_13 rfl m_X2_97 w_X2_readSum (r_readSum_y X K W m _ 0 (by omega) (by omega) rfl M2 iM2 i lv tsM2 (by omega) (by omega) (by omega) (by omega)) rfl ⟨_, _, _, rfl, rfl, rfl⟩ (by decide) (by decide) rfl (Nat.le_of_ble_eq_true rfl) (fun z4 M5 q3 => ?_)
  obtain ⟨iM5, fM50, eM5_31_1, eM5_37_1, pM5⟩ := q3
  have fM5 : Fr (fun c => c = 30 ∨ c = 31 ∨ c = 37 ∨ c = 39 ∨ c = 40 ∨ c = cq) M M5 := Fr.tr fM2 fM50 (fun c z => by first | omega | (dsimp only at z ⊢; omega))
  have q31_1_M5 : id (M5 31 1 = M 31 1) := eM5_31_1.trans q31_1_M2
  have q37_1_M5 : id (M5 37 1 = M 37 1) := eM5_37_1.trans q37_1_M2
  clear eM5_31_1 eM5_37_1
  have tsM5 : TS M5 K W m := TS.fr tsM2 fM50 (fun c h1 h2 => by first | omega | (dsimp only; omega))
  obtain ⟨pzM5, jM5, lvM5, paM5, plM5, piM5, pmM5, yM5⟩ := pM5
  have gM5 := yM5.rs
  refine g_istore_n (pc' := 17) (i := 2) (L' := [(2, vi z4), (0, vr X 30), (1, vr X cq)]) dX2_readAmount_16 rfl rfl (by decide) rfl ?_
  refine g_aload_n (pc' := 18) 2 dX2_readAmount_17 rfl rfl ?_
  refine g_aload_n (pc' := 19) 1 dX2_readAmount_18 rfl rfl ?_
  refine g_getR (pc' := 22) dX2_readAmount_19 rfl f_X2_21 rfl rfl ?_
  refine g_getI (pc' := 25) dX2_readAmount_22 rfl f_X2_29 rfl rfl (fun v6 ev6 rv6 => ?_)
  have bv6 : 0 ≤ v6 ∧ v6 ≤ 400 := by rw [ev6]; exact iM5.2.2.2.1.1
  refine g_putI (pc' := 28) dX2_readAmount_25 rfl p_X2_101 (clS hcq) rfl rv6 (fun M7 hM7 => ?_)
  have iM7 : IC M7 := IC.wr iM5 hM7 (by unfold okw isT; first | decide | omega)
  have fM7 : Fr (fun c => c = 30 ∨ c = 31 ∨ c = 37 ∨ c = 39 ∨ c = 40 ∨ c = cq) M M7 := Fr.wr fM5 hM7 (by first | decide | omega | (dsimp only; omega))
  have q31_1_M7 : id (M7 31 1 = M 31 1) := (show M7 31 1 = M5 31 1 by rw [hM7]; exact mu_ne _ _ (by first | decide | omega)).trans q31_1_M5
  have q37_1_M7 : id (M7 37 1 = M 37 1) := (show M7 37 1 = M5 37 1 by rw [hM7]; exact mu_ne _ _ (by first | decide | omega)).trans q37_1_M5
  have wM7_30_2 : M7 30 2 = M5 30 2 := by rw [hM7]; exact mu_ne _ _ (by first | decide | omega)
  have wM7_31_7 : M7 31 7 = M5 31 7 := by rw [hM7]; exact mu_ne _ _ (by first | decide | omega)
  have wM7_37_4 : M7 37 4 = M5 37 4 := by rw [hM7]; exact mu_ne _ _ (by first | decide | omega)
  have tsM7 : TS M7 K W m := TS.fr tsM5 (P := fun q => q = cq) (fun q hq => by rw [hM7]; exact mu_cell _ _ hq) (fun q h1 h2 => by show ¬ q = cq; omega)
  have k39M7 : M7 39 = M5 39 := (show M7 39 = M5 39 by rw [hM7]; exact mu_cell _ _ (by first | decide | omega))
  have k40M7 : M7 40 = M5 40 := (show M7 40 = M5 40 by rw [hM7]; exact mu_cell _ _ (by first | decide | omega))
  have xkM7 : M7 cq 6 = v6 := by rw [hM7]; exact mu_at _ _ _ _
  have xoM7 : ∀ q : Nat, q ≠ 6 → M7 cq q = M5 cq q := fun q hq => by rw [hM7]; exact mu_ne _ _ (fun _ => hq)
  refine g_iload_n (pc' := 29) 0 dX2_readAmount_28 rfl rfl ?_
  refine g_zreturn dX2_readAmount_29 (by omega) ?_
  have yl := yM5.2.1
  have yk : ∀ q : Nat, M5 cq q = M2 cq q := fun q => congrFun (fM50 cq (by first | omega | (dsimp only; omega))) q
  have y5 := yk 5
  have z5 := xoM7 5 (by decide)
  exact ⟨iM7, fM7, q31_1_M7, q37_1_M7, by omega, jM5, lvM5, by omega, by omega, by omega, by omega, exF_S gM5 (by omega), (fun q h5 h6 => (xoM7 q h6).trans ((yk q).trans (xoM2 q h5))), by omega, by omega, fun z => ⟨(CDS.eq (M := M) (M1 := M2) (by omega) k39M2 k40M2).tr ((yM5.2.2 z).2.1.tr (CDS.eq (by omega) k39M7 k40M7)), (yM5.2.2 z).2.2.1, by
      have q := (yM5.2.2 z).2.2.2.exM (yM5.2.2 z).1
      rw [k39M7, k40M7, show M7 37 4 = M5 37 4 by omega, show M 37 4 = M2 37 4 by omega]
      exact q⟩⟩
set_option maxHeartbeats 4000000 in
set_option maxRecDepth 100000 in
theorem c_X2_readFrom_y (X : Cx) (M : Mm) (hi : IC M) (cq : Nat) (hcq : 41 ≤ cq ∧ cq ≤ 52) (K W : Nat → Int) (m i : Nat) (hts : TS M K W m) (hat : M 31 7 = (i : Int)) (him : i ≤ m) (lv : Int) (hlv : M 30 2 = lv) (hsl : 0 ≤ M 37 4 ∧ M 37 4 ≤ (i : Int)) : Con X 7 yX2_readFrom cX2_readFrom 2 (some .boolean) [vr X 30, vr X cq] M (Qi (fun r M1 => IC M1 ∧ Fr (fun c => c = 31 ∨ c = cq) M M1 ∧ M1 31 1 = M 31 1 ∧ M1 37 1 = M 37 1 ∧ ((r = 0 ∨ r = 1) ∧ ∃ (j : Nat) (lv1 : Int), M1 31 7 = (j : Int) ∧ M1 30 2 = lv1 ∧ i ≤ j ∧ j ≤ m ∧ STq (sFr K W (1, i, lv)) r j lv1 ∧ (∀ q : Nat, q ≠ 2 → M1 cq q = M cq q) ∧ (r = 1 → M1 cq 2 = W (i + 1) ∧ j = i + 1 + 1 ∧ lv1 = lv)))) := by
  refine Con.ofG rfl (Nat.le_of_ble_eq_true rfl) ?_
  show G X 7 RX2 cX2_readFrom 2 (some .boolean) (Qi (fun r M1 => IC M1 ∧ Fr (fun c => c = 31 ∨ c = cq) M M1 ∧ M1 31 1 = M 31 1 ∧ M1 37 1 = M 37 1 ∧ ((r = 0 ∨ r = 1) ∧ ∃ (j : Nat) (lv1 : Int), M1 31 7 = (j : Int) ∧ M1 30 2 = lv1 ∧ i ≤ j ∧ j ≤ m ∧ STq (sFr K W (1, i, lv)) r j lv1 ∧ (∀ q : Nat, q ≠ 2 → M1 cq q = M cq q) ∧ (r = 1 → M1 cq 2 = W (i + 1) ∧ j = i + 1 + 1 ∧ lv1 = lv)))) 0 [(0, vr X 30), (1, vr X cq)] [] M
  refine g_aload_n (pc' := 1) 1 dX2_readFrom_0 rfl rfl ?_
  refine g_aload_n (pc' := 2) 0 dX2_readFrom_1 rfl rfl ?_
  refine g_getR (pc' := 5) dX2_readFrom_2 rfl f_X2_12 rfl rfl ?_
  refine g_ldcS (pc' := 7) (j := 5) dX2_readFrom_5 rfl rfl ?_
  refine g_callVi (pc' := 10) (As := [vs X 5]) (b := 31) (S := [vr X cq]) dX2_readFrom_7 rfl m_X2_65 w_X8_takeWord (c_X8_takeWord_x X M hi 5 (by decide) K W m i hts hat him) rfl ⟨_, _, _, rfl, rfl, rfl⟩ (by decide) (by decide) rfl (Nat.le_of_ble_eq_true rfl) (fun z2 M3 q1 => ?_)
  obtain ⟨iM3, fM30, eM3_31_1, pM3⟩ := q1
  have fM3 : Fr (fun c => c = 31 ∨ c = cq) M M3 := Fr.tr Fr.rf fM30 (fun c z => by first | omega | (dsimp only at z ⊢; omega))
  have q31_1_M3 : id (M3 31 1 = M 31 1) := eM3_31_1
  have q37_1_M3 : id (M3 37 1 = M 37 1) := (congrFun (fM30 37 (by first | decide | omega | (dsimp only; omega))) 1)
  have wM3_30_2 : M3 30 2 = M 30 2 := (congrFun (fM30 30 (by first | decide | omega | (dsimp only; omega))) 2)
  have wM3_37_4 : M3 37 4 = M 37 4 := (congrFun (fM30 37 (by first | decide | omega | (dsimp only; omega))) 4)
  clear eM3_31_1
  have tsM3 : TS M3 K W m := TS.fr hts fM30 (fun c h1 h2 => by first | omega | (dsimp only; omega))
  rw [cw_5] at pM3
  have k39M3 : M3 39 = M 39 := (fM30 39 (by first | decide | omega | (dsimp only; omega)))
  have k40M3 : M3 40 = M 40 := (fM30 40 (by first | decide | omega | (dsimp only; omega)))
  have c0M3 : M3 cq 0 = M cq 0 := congrFun (fM30 cq (by first | omega | (dsimp only; omega))) 0
  have c1M3 : M3 cq 1 = M cq 1 := congrFun (fM30 cq (by first | omega | (dsimp only; omega))) 1
  have c2M3 : M3 cq 2 = M cq 2 := congrFun (fM30 cq (by first | omega | (dsimp only; omega))) 2
  have c3M3 : M3 cq 3 = M cq 3 := congrFun (fM30 cq (by first | omega | (dsimp only; omega))) 3
  have c4M3 : M3 cq 4 = M cq 4 := congrFun (fM30 cq (by first | omega | (dsimp only; omega))) 4
  have c5M3 : M3 cq 5 = M cq 5 := congrFun (fM30 cq (by first | omega | (dsimp only; omega))) 5
  have c6M3 : M3 cq 6 = M cq 6 := congrFun (fM30 cq (by first | omega | (dsimp only; omega))) 6
  have c7M3 : M3 cq 7 = M cq 7 := congrFun (fM30 cq (by first | omega | (dsimp only; omega))) 7
  have chM3 : M3 cq = M cq := (fM30 cq (by first | omega | (dsimp only; omega)))
  refine g_if_eq (pc' := 13) (tgt := 25) ⟨by omega, by omega⟩ dX2_readFrom_10 rfl rfl (fun c4 => ?_) (fun c4 => ?_)
  · refine g_iconst (pc' := 26) dX2_readFrom_25 rfl ?_
    refine g_putI (pc' := 29) dX2_readFrom_26 rfl p_X2_106 (clS hcq) rfl (by decide) (fun M5 hM5 => ?_)
    have fqM5 : ∀ q : Nat, q = cq → M3 q = M q := fun q hq => by subst hq; exact chM3
    have iM5 : IC M5 := IC.wr iM3 hM5 (by unfold okw isT; first | decide | omega)
    have fM5 : Fr (fun c => c = 31 ∨ c = cq) M M5 := Fr.wr fM3 hM5 (by first | decide | omega | (dsimp only; omega))
    have q31_1_M5 : id (M5 31 1 = M 31 1) := (show M5 31 1 = M3 31 1 by rw [hM5]; exact mu_ne _ _ (by first | decide | omega)).trans q31_1_M3
    have q37_1_M5 : id (M5 37 1 = M 37 1) := (show M5 37 1 = M3 37 1 by rw [hM5]; exact mu_ne _ _ (by first | decide | omega)).trans q37_1_M3
    have wM5_30_2 : M5 30 2 = M3 30 2 := by rw [hM5]; exact mu_ne _ _ (by first | decide | omega)
    have wM5_31_7 : M5 31 7 = M3 31 7 := by rw [hM5]; exact mu_ne _ _ (by first | decide | omega)
    have wM5_37_4 : M5 37 4 = M3 37 4 := by rw [hM5]; exact mu_ne _ _ (by first | decide | omega)
    have tsM5 : TS M5 K W m := TS.fr tsM3 (P := fun q => q = cq) (fun q hq => by rw [hM5]; exact mu_cell _ _ hq) (fun q h1 h2 => by show ¬ q = cq; omega)
    have k39M5 : M5 39 = M 39 := (show M5 39 = M3 39 by rw [hM5]; exact mu_cell _ _ (by first | decide | omega)).trans k39M3
    have k40M5 : M5 40 = M 40 := (show M5 40 = M3 40 by rw [hM5]; exact mu_cell _ _ (by first | decide | omega)).trans k40M3
    have xkM5 : M5 cq 2 = (-1) := by rw [hM5]; exact mu_at _ _ _ _
    have xoM5 : ∀ q : Nat, q ≠ 2 → M5 cq q = M3 cq q := fun q hq => by rw [hM5]; exact mu_ne _ _ (fun _ => hq)
    have c0M5 : M5 cq 0 = M3 cq 0 := xoM5 0 (by decide)
    have c1M5 : M5 cq 1 = M3 cq 1 := xoM5 1 (by decide)
    have c3M5 : M5 cq 3 = M3 cq 3 := xoM5 3 (by decide)
    have c4M5 : M5 cq 4 = M3 cq 4 := xoM5 4 (by decide)
    have c5M5 : M5 cq 5 = M3 cq 5 := xoM5 5 (by decide)
    have c6M5 : M5 cq 6 = M3 cq 6 := xoM5 6 (by decide)
    have c7M5 : M5 cq 7 = M3 cq 7 := xoM5 7 (by decide)
    refine g_aload_n (pc' := 30) 1 dX2_readFrom_29 rfl rfl ?_
    refine g_getI (pc' := 33) dX2_readFrom_30 rfl f_X2_106 (clS hcq) rfl (fun v6 ev6 rv6 => ?_)
    refine g_iconst (pc' := 34) dX2_readFrom_33 rfl ?_
    refine g_ic_eq (pc' := 37) (tgt := 41) rv6 (by decide) dX2_readFrom_34 rfl rfl (fun c7 => ?_) (fun c7 => ?_)
    · refine g_iconst (pc' := 42) dX2_readFrom_41 rfl ?_
      refine g_zreturn dX2_readFrom_42 (by omega) ?_
      exact ⟨iM5, fM5, q31_1_M5, q37_1_M5, by omega, i, lv, by omega, by omega, by omega, by omega, (by unfold sFr; rw [sW_n (by omega), sN_0 _ _ _ _ _ rfl]; exact STq.n), (fun q h => (xoM5 q h).trans (congrFun (fqM5 cq (by first | omega | (dsimp only; omega))) q)), fun z => absurd z (by decide)⟩
    · refine g_iconst (pc' := 38) dX2_readFrom_37 rfl ?_
      refine g_goto (tgt := 42) dX2_readFrom_38 rfl ?_
      refine g_zreturn dX2_readFrom_42 (by omega) ?_
      exact False.elim (by omega)
  · have hw1 : K (i + 1) = 2 → 0 ≤ W (i + 1) := fun z => (hts.num (by omega) z).2
    refine g_aload_n (pc' := 14) 0 dX2_readFrom_13 rfl rfl ?_
    refine g_getR (pc' := 17) dX2_readFrom_14 rfl f_X2_12 rfl rfl ?_
    refine g_iconst (pc' := 18) dX2_readFrom_17 rfl ?_
    refine g_iconst (pc' := 19) dX2_readFrom_18 rfl ?_
    refine g_callVi (pc' := 22) (As := [vi 0, vi 5]) (b := 31) (S := [vr X cq]) dX2_readFrom_19 rfl m_X2_87 w_X8_takeNumber (c_X8_takeNumber_x X M3 iM3 0 (by decide) 5 (by decide) K W m (i + 1) tsM3 (by omega) (by omega) (by omega)) rfl ⟨_, _, _, rfl, rfl, rfl⟩ (by decide) (by decide) rfl (Nat.le_of_ble_eq_true rfl) (fun z9 M10 q8 => ?_)
    obtain ⟨iM10, fM100, eM10_31_1, pM10⟩ := q8
    have fM10 : Fr (fun c => c = 31 ∨ c = cq) M M10 := Fr.tr fM3 fM100 (fun c z => by first | omega | (dsimp only at z ⊢; omega))
    have q31_1_M10 : id (M10 31 1 = M 31 1) := eM10_31_1.trans q31_1_M3
    have q37_1_M10 : id (M10 37 1 = M 37 1) := (congrFun (fM100 37 (by first | decide | omega | (dsimp only; omega))) 1).trans q37_1_M3
    have wM10_30_2 : M10 30 2 = M3 30 2 := (congrFun (fM100 30 (by first | decide | omega | (dsimp only; omega))) 2)
    have wM10_37_4 : M10 37 4 = M3 37 4 := (congrFun (fM100 37 (by first | decide | omega | (dsimp only; omega))) 4)
    clear eM10_31_1
    have tsM10 : TS M10 K W m := TS.fr tsM3 fM100 (fun c h1 h2 => by first | omega | (dsimp only; omega))
    have k39M10 : M10 39 = M 39 := (fM100 39 (by first | decide | omega | (dsimp only; omega))).trans k39M3
    have k40M10 : M10 40 = M 40 := (fM100 40 (by first | decide | omega | (dsimp only; omega))).trans k40M3
    have c0M10 : M10 cq 0 = M3 cq 0 := congrFun (fM100 cq (by first | omega | (dsimp only; omega))) 0
    have c1M10 : M10 cq 1 = M3 cq 1 := congrFun (fM100 cq (by first | omega | (dsimp only; omega))) 1
    have c2M10 : M10 cq 2 = M3 cq 2 := congrFun (fM100 cq (by first | omega | (dsimp only; omega))) 2
    have c3M10 : M10 cq 3 = M3 cq 3 := congrFun (fM100 cq (by first | omega | (dsimp only; omega))) 3
    have c4M10 : M10 cq 4 = M3 cq 4 := congrFun (fM100 cq (by first | omega | (dsimp only; omega))) 4
    have c5M10 : M10 cq 5 = M3 cq 5 := congrFun (fM100 cq (by first | omega | (dsimp only; omega))) 5
    have c6M10 : M10 cq 6 = M3 cq 6 := congrFun (fM100 cq (by first | omega | (dsimp only; omega))) 6
    have c7M10 : M10 cq 7 = M3 cq 7 := congrFun (fM100 cq (by first | omega | (dsimp only; omega))) 7
    have chM10 : M10 cq = M cq := (fM100 cq (by first | omega | (dsimp only; omega))).trans chM3
    refine g_goto (tgt := 26) dX2_readFrom_22 rfl ?_
    refine g_putI (pc' := 29) dX2_readFrom_26 rfl p_X2_106 (clS hcq) rfl ⟨by omega, by omega⟩ (fun M11 hM11 => ?_)
    have fqM11 : ∀ q : Nat, q = cq → M10 q = M q := fun q hq => by subst hq; exact chM10
    have iM11 : IC M11 := IC.wr iM10 hM11 (by unfold okw isT; first | decide | omega)
    have fM11 : Fr (fun c => c = 31 ∨ c = cq) M M11 := Fr.wr fM10 hM11 (by first | decide | omega | (dsimp only; omega))
    have q31_1_M11 : id (M11 31 1 = M 31 1) := (show M11 31 1 = M10 31 1 by rw [hM11]; exact mu_ne _ _ (by first | decide | omega)).trans q31_1_M10
    have q37_1_M11 : id (M11 37 1 = M 37 1) := (show M11 37 1 = M10 37 1 by rw [hM11]; exact mu_ne _ _ (by first | decide | omega)).trans q37_1_M10
    have wM11_30_2 : M11 30 2 = M10 30 2 := by rw [hM11]; exact mu_ne _ _ (by first | decide | omega)
    have wM11_31_7 : M11 31 7 = M10 31 7 := by rw [hM11]; exact mu_ne _ _ (by first | decide | omega)
    have wM11_37_4 : M11 37 4 = M10 37 4 := by rw [hM11]; exact mu_ne _ _ (by first | decide | omega)
    have tsM11 : TS M11 K W m := TS.fr tsM10 (P := fun q => q = cq) (fun q hq => by rw [hM11]; exact mu_cell _ _ hq) (fun q h1 h2 => by show ¬ q = cq; omega)
    have k39M11 : M11 39 = M 39 := (show M11 39 = M10 39 by rw [hM11]; exact mu_cell _ _ (by first | decide | omega)).trans k39M10
    have k40M11 : M11 40 = M 40 := (show M11 40 = M10 40 by rw [hM11]; exact mu_cell _ _ (by first | decide | omega)).trans k40M10
    have xkM11 : M11 cq 2 = z9 := by rw [hM11]; exact mu_at _ _ _ _
    have xoM11 : ∀ q : Nat, q ≠ 2 → M11 cq q = M10 cq q := fun q hq => by rw [hM11]; exact mu_ne _ _ (fun _ => hq)
    have c0M11 : M11 cq 0 = M10 cq 0 := xoM11 0 (by decide)
    have c1M11 : M11 cq 1 = M10 cq 1 := xoM11 1 (by decide)
    have c3M11 : M11 cq 3 = M10 cq 3 := xoM11 3 (by decide)
    have c4M11 : M11 cq 4 = M10 cq 4 := xoM11 4 (by decide)
    have c5M11 : M11 cq 5 = M10 cq 5 := xoM11 5 (by decide)
    have c6M11 : M11 cq 6 = M10 cq 6 := xoM11 6 (by decide)
    have c7M11 : M11 cq 7 = M10 cq 7 := xoM11 7 (by decide)
    refine g_aload_n (pc' := 30) 1 dX2_readFrom_29 rfl rfl ?_
    refine g_getI (pc' := 33) dX2_readFrom_30 rfl f_X2_106 (clS hcq) rfl (fun v12 ev12 rv12 => ?_)
    refine g_iconst (pc' := 34) dX2_readFrom_33 rfl ?_
    refine g_ic_eq (pc' := 37) (tgt := 41) rv12 (by decide) dX2_readFrom_34 rfl rfl (fun c13 => ?_) (fun c13 => ?_)
    · refine g_iconst (pc' := 42) dX2_readFrom_41 rfl ?_
      refine g_zreturn dX2_readFrom_42 (by omega) ?_
      exact ⟨iM11, fM11, q31_1_M11, q37_1_M11, by omega, i + 1, lv, by omega, by omega, by omega, by omega, (by unfold sFr; rw [sW_1 (by omega), sN_n (by omega)]; exact STq.n), (fun q h => (xoM11 q h).trans (congrFun (fqM11 cq (by first | omega | (dsimp only; omega))) q)), fun z => absurd z (by decide)⟩
    · refine g_iconst (pc' := 38) dX2_readFrom_37 rfl ?_
      refine g_goto (tgt := 42) dX2_readFrom_38 rfl ?_
      refine g_zreturn dX2_readFrom_42 (by omega) ?_
      exact ⟨iM11, fM11, q31_1_M11, q37_1_M11, by omega, i + 1 + 1, lv, by omega, by omega, by omega, by omega, (by unfold sFr; rw [sW_1 (by omega), sN_1 (by omega)]; exact STq.y), (fun q h => (xoM11 q h).trans (congrFun (fqM11 cq (by first | omega | (dsimp only; omega))) q)), fun _ => ⟨by omega, rfl, rfl⟩⟩
set_option maxHeartbeats 4000000 in
set_option maxRecDepth 100000 in
theorem c_X2_readTo_y (X : Cx) (M : Mm) (hi : IC M) (cq : Nat) (hcq : 41 ≤ cq ∧ cq ≤ 52) (K W : Nat → Int) (m i : Nat) (hts : TS M K W m) (hat : M 31 7 = (i : Int)) (him : i ≤ m) (lv : Int) (hlv : M 30 2 = lv) (hsl : 0 ≤ M 37 4 ∧ M 37 4 ≤ (i : Int)) : Con X 7 yX2_readTo cX2_readTo 2 (some .boolean) [vr X 30, vr X cq] M (Qi (fun r M1 => IC M1 ∧ Fr (fun c => c = 31 ∨ c = cq) M M1 ∧ M1 31 1 = M 31 1 ∧ M1 37 1 = M 37 1 ∧ ((r = 0 ∨ r = 1) ∧ ∃ (j : Nat) (lv1 : Int), M1 31 7 = (j : Int) ∧ M1 30 2 = lv1 ∧ i ≤ j ∧ j ≤ m ∧ STq (sTo K W (1, i, lv)) r j lv1 ∧ (∀ q : Nat, q ≠ 3 → M1 cq q = M cq q) ∧ (r = 1 → M1 cq 3 = W (i + 1) ∧ j = i + 1 + 1 ∧ lv1 = lv)))) := by
  refine Con.ofG rfl (Nat.le_of_ble_eq_true rfl) ?_
  show G X 7 RX2 cX2_readTo 2 (some .boolean) (Qi (fun r M1 => IC M1 ∧ Fr (fun c => c = 31 ∨ c = cq) M M1 ∧ M1 31 1 = M 31 1 ∧ M1 37 1 = M 37 1 ∧ ((r = 0 ∨ r = 1) ∧ ∃ (j : Nat) (lv1 : Int), M1 31 7 = (j : Int) ∧ M1 30 2 = lv1 ∧ i ≤ j ∧ j ≤ m ∧ STq (sTo K W (1, i, lv)) r j lv1 ∧ (∀ q : Nat, q ≠ 3 → M1 cq q = M cq q) ∧ (r = 1 → M1 cq 3 = W (i + 1) ∧ j = i + 1 + 1 ∧ lv1 = lv)))) 0 [(0, vr X 30), (1, vr X cq)] [] M
  refine g_aload_n (pc' := 1) 1 dX2_readTo_0 rfl rfl ?_
  refine g_aload_n (pc' := 2) 0 dX2_readTo_1 rfl rfl ?_
  refine g_getR (pc' := 5) dX2_readTo_2 rfl f_X2_12 rfl rfl ?_
  refine g_ldcS (pc' := 7) (j := 6) dX2_readTo_5 rfl rfl ?_
  refine g_callVi (pc' := 10) (As := [vs X 6]) (b := 31) (S := [vr X cq]) dX2_readTo_7 rfl m_X2_65 w_X8_takeWord (c_X8_takeWord_x X M hi 6 (by decide) K W m i hts hat him) rfl ⟨_, _, _, rfl, rfl, rfl⟩ (by decide) (by decide) rfl (Nat.le_of_ble_eq_true rfl) (fun z2 M3 q1 => ?_)
  obtain ⟨iM3, fM30, eM3_31_1, pM3⟩ := q1
  have fM3 : Fr (fun c => c = 31 ∨ c = cq) M M3 := Fr.tr Fr.rf fM30 (fun c z => by first | omega | (dsimp only at z ⊢; omega))
  have q31_1_M3 : id (M3 31 1 = M 31 1) := eM3_31_1
  have q37_1_M3 : id (M3 37 1 = M 37 1) := (congrFun (fM30 37 (by first | decide | omega | (dsimp only; omega))) 1)
  have wM3_30_2 : M3 30 2 = M 30 2 := (congrFun (fM30 30 (by first | decide | omega | (dsimp only; omega))) 2)
  have wM3_37_4 : M3 37 4 = M 37 4 := (congrFun (fM30 37 (by first | decide | omega | (dsimp only; omega))) 4)
  clear eM3_31_1
  have tsM3 : TS M3 K W m := TS.fr hts fM30 (fun c h1 h2 => by first | omega | (dsimp only; omega))
  rw [cw_6] at pM3
  have k39M3 : M3 39 = M 39 := (fM30 39 (by first | decide | omega | (dsimp only; omega)))
  have k40M3 : M3 40 = M 40 := (fM30 40 (by first | decide | omega | (dsimp only; omega)))
  have c0M3 : M3 cq 0 = M cq 0 := congrFun (fM30 cq (by first | omega | (dsimp only; omega))) 0
  have c1M3 : M3 cq 1 = M cq 1 := congrFun (fM30 cq (by first | omega | (dsimp only; omega))) 1
  have c2M3 : M3 cq 2 = M cq 2 := congrFun (fM30 cq (by first | omega | (dsimp only; omega))) 2
  have c3M3 : M3 cq 3 = M cq 3 := congrFun (fM30 cq (by first | omega | (dsimp only; omega))) 3
  have c4M3 : M3 cq 4 = M cq 4 := congrFun (fM30 cq (by first | omega | (dsimp only; omega))) 4
  have c5M3 : M3 cq 5 = M cq 5 := congrFun (fM30 cq (by first | omega | (dsimp only; omega))) 5
  have c6M3 : M3 cq 6 = M cq 6 := congrFun (fM30 cq (by first | omega | (dsimp only; omega))) 6
  have c7M3 : M3 cq 7 = M cq 7 := congrFun (fM30 cq (by first | omega | (dsimp only; omega))) 7
  have chM3 : M3 cq = M cq := (fM30 cq (by first | omega | (dsimp only; omega)))
  refine g_if_eq (pc' := 13) (tgt := 25) ⟨by omega, by omega⟩ dX2_readTo_10 rfl rfl (fun c4 => ?_) (fun c4 => ?_)
  · refine g_iconst (pc' := 26) dX2_readTo_25 rfl ?_
    refine g_putI (pc' := 29) dX2_readTo_26 rfl p_X2_110 (clS hcq) rfl (by decide) (fun M5 hM5 => ?_)
    have fqM5 : ∀ q : Nat, q = cq → M3 q = M q := fun q hq => by subst hq; exact chM3
    have iM5 : IC M5 := IC.wr iM3 hM5 (by unfold okw isT; first | decide | omega)
    have fM5 : Fr (fun c => c = 31 ∨ c = cq) M M5 := Fr.wr fM3 hM5 (by first | decide | omega | (dsimp only; omega))
    have q31_1_M5 : id (M5 31 1 = M 31 1) := (show M5 31 1 = M3 31 1 by rw [hM5]; exact mu_ne _ _ (by first | decide | omega)).trans q31_1_M3
    have q37_1_M5 : id (M5 37 1 = M 37 1) := (show M5 37 1 = M3 37 1 by rw [hM5]; exact mu_ne _ _ (by first | decide | omega)).trans q37_1_M3
    have wM5_30_2 : M5 30 2 = M3 30 2 := by rw [hM5]; exact mu_ne _ _ (by first | decide | omega)
    have wM5_31_7 : M5 31 7 = M3 31 7 := by rw [hM5]; exact mu_ne _ _ (by first | decide | omega)
    have wM5_37_4 : M5 37 4 = M3 37 4 := by rw [hM5]; exact mu_ne _ _ (by first | decide | omega)
    have tsM5 : TS M5 K W m := TS.fr tsM3 (P := fun q => q = cq) (fun q hq => by rw [hM5]; exact mu_cell _ _ hq) (fun q h1 h2 => by show ¬ q = cq; omega)
    have k39M5 : M5 39 = M 39 := (show M5 39 = M3 39 by rw [hM5]; exact mu_cell _ _ (by first | decide | omega)).trans k39M3
    have k40M5 : M5 40 = M 40 := (show M5 40 = M3 40 by rw [hM5]; exact mu_cell _ _ (by first | decide | omega)).trans k40M3
    have xkM5 : M5 cq 3 = (-1) := by rw [hM5]; exact mu_at _ _ _ _
    have xoM5 : ∀ q : Nat, q ≠ 3 → M5 cq q = M3 cq q := fun q hq => by rw [hM5]; exact mu_ne _ _ (fun _ => hq)
    have c0M5 : M5 cq 0 = M3 cq 0 := xoM5 0 (by decide)
    have c1M5 : M5 cq 1 = M3 cq 1 := xoM5 1 (by decide)
    have c2M5 : M5 cq 2 = M3 cq 2 := xoM5 2 (by decide)
    have c4M5 : M5 cq 4 = M3 cq 4 := xoM5 4 (by decide)
    have c5M5 : M5 cq 5 = M3 cq 5 := xoM5 5 (by decide)
    have c6M5 : M5 cq 6 = M3 cq 6 := xoM5 6 (by decide)
    have c7M5 : M5 cq 7 = M3 cq 7 := xoM5 7 (by decide)
    refine g_aload_n (pc' := 30) 1 dX2_readTo_29 rfl rfl ?_
    refine g_getI (pc' := 33) dX2_readTo_30 rfl f_X2_110 (clS hcq) rfl (fun v6 ev6 rv6 => ?_)
    refine g_iconst (pc' := 34) dX2_readTo_33 rfl ?_
    refine g_ic_eq (pc' := 37) (tgt := 41) rv6 (by decide) dX2_readTo_34 rfl rfl (fun c7 => ?_) (fun c7 => ?_)
    · refine g_iconst (pc' := 42) dX2_readTo_41 rfl ?_
      refine g_zreturn dX2_readTo_42 (by omega) ?_
      exact ⟨iM5, fM5, q31_1_M5, q37_1_M5, by omega, i, lv, by omega, by omega, by omega, by omega, (by unfold sTo; rw [sW_n (by omega), sN_0 _ _ _ _ _ rfl]; exact STq.n), (fun q h => (xoM5 q h).trans (congrFun (fqM5 cq (by first | omega | (dsimp only; omega))) q)), fun z => absurd z (by decide)⟩
    · refine g_iconst (pc' := 38) dX2_readTo_37 rfl ?_
      refine g_goto (tgt := 42) dX2_readTo_38 rfl ?_
      refine g_zreturn dX2_readTo_42 (by omega) ?_
      exact False.elim (by omega)
  · have hw1 : K (i + 1) = 2 → 0 ≤ W (i + 1) := fun z => (hts.num (by omega) z).2
    refine g_aload_n (pc' := 14) 0 dX2_readTo_13 rfl rfl ?_
    refine g_getR (pc' := 17) dX2_readTo_14 rfl f_X2_12 rfl rfl ?_
    refine g_iconst (pc' := 18) dX2_readTo_17 rfl ?_
    refine g_iconst (pc' := 19) dX2_readTo_18 rfl ?_
    refine g_callVi (pc' := 22) (As := [vi 0, vi 5]) (b := 31) (S := [vr X cq]) dX2_readTo_19 rfl m_X2_87 w_X8_takeNumber (c_X8_takeNumber_x X M3 iM3 0 (by decide) 5 (by decide) K W m (i + 1) tsM3 (by omega) (by omega) (by omega)) rfl ⟨_, _, _, rfl, rfl, rfl⟩ (by decide) (by decide) rfl (Nat.le_of_ble_eq_true rfl) (fun z9 M10 q8 => ?_)
    obtain ⟨iM10, fM100, eM10_31_1, pM10⟩ := q8
    have fM10 : Fr (fun c => c = 31 ∨ c = cq) M M10 := Fr.tr fM3 fM100 (fun c z => by first | omega | (dsimp only at z ⊢; omega))
    have q31_1_M10 : id (M10 31 1 = M 31 1) := eM10_31_1.trans q31_1_M3
    have q37_1_M10 : id (M10 37 1 = M 37 1) := (congrFun (fM100 37 (by first | decide | omega | (dsimp only; omega))) 1).trans q37_1_M3
    have wM10_30_2 : M10 30 2 = M3 30 2 := (congrFun (fM100 30 (by first | decide | omega | (dsimp only; omega))) 2)
    have wM10_37_4 : M10 37 4 = M3 37 4 := (congrFun (fM100 37 (by first | decide | omega | (dsimp only; omega))) 4)
    clear eM10_31_1
    have tsM10 : TS M10 K W m := TS.fr tsM3 fM100 (fun c h1 h2 => by first | omega | (dsimp only; omega))
    have k39M10 : M10 39 = M 39 := (fM100 39 (by first | decide | omega | (dsimp only; omega))).trans k39M3
    have k40M10 : M10 40 = M 40 := (fM100 40 (by first | decide | omega | (dsimp only; omega))).trans k40M3
    have c0M10 : M10 cq 0 = M3 cq 0 := congrFun (fM100 cq (by first | omega | (dsimp only; omega))) 0
    have c1M10 : M10 cq 1 = M3 cq 1 := congrFun (fM100 cq (by first | omega | (dsimp only; omega))) 1
    have c2M10 : M10 cq 2 = M3 cq 2 := congrFun (fM100 cq (by first | omega | (dsimp only; omega))) 2
    have c3M10 : M10 cq 3 = M3 cq 3 := congrFun (fM100 cq (by first | omega | (dsimp only; omega))) 3
    have c4M10 : M10 cq 4 = M3 cq 4 := congrFun (fM100 cq (by first | omega | (dsimp only; omega))) 4
    have c5M10 : M10 cq 5 = M3 cq 5 := congrFun (fM100 cq (by first | omega | (dsimp only; omega))) 5
    have c6M10 : M10 cq 6 = M3 cq 6 := congrFun (fM100 cq (by first | omega | (dsimp only; omega))) 6
    have c7M10 : M10 cq 7 = M3 cq 7 := congrFun (fM100 cq (by first | omega | (dsimp only; omega))) 7
    have chM10 : M10 cq = M cq := (fM100 cq (by first | omega | (dsimp only; omega))).trans chM3
    refine g_goto (tgt := 26) dX2_readTo_22 rfl ?_
    refine g_putI (pc' := 29) dX2_readTo_26 rfl p_X2_110 (clS hcq) rfl ⟨by omega, by omega⟩ (fun M11 hM11 => ?_)
    have fqM11 : ∀ q : Nat, q = cq → M10 q = M q := fun q hq => by subst hq; exact chM10
    have iM11 : IC M11 := IC.wr iM10 hM11 (by unfold okw isT; first | decide | omega)
    have fM11 : Fr (fun c => c = 31 ∨ c = cq) M M11 := Fr.wr fM10 hM11 (by first | decide | omega | (dsimp only; omega))
    have q31_1_M11 : id (M11 31 1 = M 31 1) := (show M11 31 1 = M10 31 1 by rw [hM11]; exact mu_ne _ _ (by first | decide | omega)).trans q31_1_M10
    have q37_1_M11 : id (M11 37 1 = M 37 1) := (show M11 37 1 = M10 37 1 by rw [hM11]; exact mu_ne _ _ (by first | decide | omega)).trans q37_1_M10
    have wM11_30_2 : M11 30 2 = M10 30 2 := by rw [hM11]; exact mu_ne _ _ (by first | decide | omega)
    have wM11_31_7 : M11 31 7 = M10 31 7 := by rw [hM11]; exact mu_ne _ _ (by first | decide | omega)
    have wM11_37_4 : M11 37 4 = M10 37 4 := by rw [hM11]; exact mu_ne _ _ (by first | decide | omega)
    have tsM11 : TS M11 K W m := TS.fr tsM10 (P := fun q => q = cq) (fun q hq => by rw [hM11]; exact mu_cell _ _ hq) (fun q h1 h2 => by show ¬ q = cq; omega)
    have k39M11 : M11 39 = M 39 := (show M11 39 = M10 39 by rw [hM11]; exact mu_cell _ _ (by first | decide | omega)).trans k39M10
    have k40M11 : M11 40 = M 40 := (show M11 40 = M10 40 by rw [hM11]; exact mu_cell _ _ (by first | decide | omega)).trans k40M10
    have xkM11 : M11 cq 3 = z9 := by rw [hM11]; exact mu_at _ _ _ _
    have xoM11 : ∀ q : Nat, q ≠ 3 → M11 cq q = M10 cq q := fun q hq => by rw [hM11]; exact mu_ne _ _ (fun _ => hq)
    have c0M11 : M11 cq 0 = M10 cq 0 := xoM11 0 (by decide)
    have c1M11 : M11 cq 1 = M10 cq 1 := xoM11 1 (by decide)
    have c2M11 : M11 cq 2 = M10 cq 2 := xoM11 2 (by decide)
    have c4M11 : M11 cq 4 = M10 cq 4 := xoM11 4 (by decide)
    have c5M11 : M11 cq 5 = M10 cq 5 := xoM11 5 (by decide)
    have c6M11 : M11 cq 6 = M10 cq 6 := xoM11 6 (by decide)
    have c7M11 : M11 cq 7 = M10 cq 7 := xoM11 7 (by decide)
    refine g_aload_n (pc' := 30) 1 dX2_readTo_29 rfl rfl ?_
    refine g_getI (pc' := 33) dX2_readTo_30 rfl f_X2_110 (clS hcq) rfl (fun v12 ev12 rv12 => ?_)
    refine g_iconst (pc' := 34) dX2_readTo_33 rfl ?_
    refine g_ic_eq (pc' := 37) (tgt := 41) rv12 (by decide) dX2_readTo_34 rfl rfl (fun c13 => ?_) (fun c13 => ?_)
    · refine g_iconst (pc' := 42) dX2_readTo_41 rfl ?_
      refine g_zreturn dX2_readTo_42 (by omega) ?_
      exact ⟨iM11, fM11, q31_1_M11, q37_1_M11, by omega, i + 1, lv, by omega, by omega, by omega, by omega, (by unfold sTo; rw [sW_1 (by omega), sN_n (by omega)]; exact STq.n), (fun q h => (xoM11 q h).trans (congrFun (fqM11 cq (by first | omega | (dsimp only; omega))) q)), fun z => absurd z (by decide)⟩
    · refine g_iconst (pc' := 38) dX2_readTo_37 rfl ?_
      refine g_goto (tgt := 42) dX2_readTo_38 rfl ?_
      refine g_zreturn dX2_readTo_42 (by omega) ?_
      exact ⟨iM11, fM11, q31_1_M11, q37_1_M11, by omega, i + 1 + 1, lv, by omega, by omega, by omega, by omega, (by unfold sTo; rw [sW_1 (by omega), sN_1 (by omega)]; exact STq.y), (fun q h => (xoM11 q h).trans (congrFun (fqM11 cq (by first | omega | (dsimp only; omega))) q)), fun _ => ⟨by omega, rfl, rfl⟩⟩
set_option maxHeartbeats 4000000 in
set_option maxRecDepth 100000 in
theorem c_X2_readTimes_y (X : Cx) (M : Mm) (hi : IC M) (cq : Nat) (hcq : 41 ≤ cq ∧ cq ≤ 52) (K W : Nat → Int) (m i : Nat) (hts : TS M K W m) (hat : M 31 7 = (i : Int)) (him : i ≤ m) (lv : Int) (hlv : M 30 2 = lv) (hsl : 0 ≤ M 37 4 ∧ M 37 4 ≤ (i : Int)) : Con X 7 yX2_readTimes cX2_readTimes 2 (some .boolean) [vr X 30, vr X cq] M (Qi (fun r M1 => IC M1 ∧ Fr (fun c => c = 31 ∨ c = cq) M M1 ∧ M1 31 1 = M 31 1 ∧ M1 37 1 = M 37 1 ∧ ((r = 0 ∨ r = 1) ∧ ∃ (j : Nat) (lv1 : Int), M1 31 7 = (j : Int) ∧ M1 30 2 = lv1 ∧ i ≤ j ∧ j ≤ m ∧ STq (sTm K W (1, i, lv)) r j lv1 ∧ (∀ q : Nat, q ≠ 4 → M1 cq q = M cq q) ∧ (r = 1 → (M1 cq 4 = cTv K W i ∧ 1 ≤ M1 cq 4 ∧ M1 cq 4 ≤ 20) ∧ lv1 = lv)))) := by
  refine Con.ofG rfl (Nat.le_of_ble_eq_true rfl) ?_
  show G X 7 RX2 cX2_readTimes 2 (some .boolean) (Qi (fun r M1 => IC M1 ∧ Fr (fun c => c = 31 ∨ c = cq) M M1 ∧ M1 31 1 = M 31 1 ∧ M1 37 1 = M 37 1 ∧ ((r = 0 ∨ r = 1) ∧ ∃ (j : Nat) (lv1 : Int), M1 31 7 = (j : Int) ∧ M1 30 2 = lv1 ∧ i ≤ j ∧ j ≤ m ∧ STq (sTm K W (1, i, lv)) r j lv1 ∧ (∀ q : Nat, q ≠ 4 → M1 cq q = M cq q) ∧ (r = 1 → (M1 cq 4 = cTv K W i ∧ 1 ≤ M1 cq 4 ∧ M1 cq 4 ≤ 20) ∧ lv1 = lv)))) 0 [(0, vr X 30), (1, vr X cq)] [] M
  refine g_aload_n (pc' := 1) 1 dX2_readTimes_0 rfl rfl ?_
  refine g_aload_n (pc' := 2) 0 dX2_readTimes_1 rfl rfl ?_
  refine g_getR (pc' := 5) dX2_readTimes_2 rfl f_X2_12 rfl rfl ?_
  refine g_ldcS (pc' := 7) (j := 9) dX2_readTimes_5 rfl rfl ?_
  refine g_callVi (pc' := 10) (As := [vs X 9]) (b := 31) (S := [vr X cq]) dX2_readTimes_7 rfl m_X2_65 w_X8_takeWord (c_X8_takeWord_x X M hi 9 (by decide) K W m i hts hat him) rfl ⟨_, _, _, rfl, rfl, rfl⟩ (by decide) (by decide) rfl (Nat.le_of_ble_eq_true rfl) (fun z2 M3 q1 => ?_)
  obtain ⟨iM3, fM30, eM3_31_1, pM3⟩ := q1
  have fM3 : Fr (fun c => c = 31 ∨ c = cq) M M3 := Fr.tr Fr.rf fM30 (fun c z => by first | omega | (dsimp only at z ⊢; omega))
  have q31_1_M3 : id (M3 31 1 = M 31 1) := eM3_31_1
  have q37_1_M3 : id (M3 37 1 = M 37 1) := (congrFun (fM30 37 (by first | decide | omega | (dsimp only; omega))) 1)
  have wM3_30_2 : M3 30 2 = M 30 2 := (congrFun (fM30 30 (by first | decide | omega | (dsimp only; omega))) 2)
  have wM3_37_4 : M3 37 4 = M 37 4 := (congrFun (fM30 37 (by first | decide | omega | (dsimp only; omega))) 4)
  clear eM3_31_1
  have tsM3 : TS M3 K W m := TS.fr hts fM30 (fun c h1 h2 => by first | omega | (dsimp only; omega))
  rw [cw_9] at pM3
  have k39M3 : M3 39 = M 39 := (fM30 39 (by first | decide | omega | (dsimp only; omega)))
  have k40M3 : M3 40 = M 40 := (fM30 40 (by first | decide | omega | (dsimp only; omega)))
  have c0M3 : M3 cq 0 = M cq 0 := congrFun (fM30 cq (by first | omega | (dsimp only; omega))) 0
  have c1M3 : M3 cq 1 = M cq 1 := congrFun (fM30 cq (by first | omega | (dsimp only; omega))) 1
  have c2M3 : M3 cq 2 = M cq 2 := congrFun (fM30 cq (by first | omega | (dsimp only; omega))) 2
  have c3M3 : M3 cq 3 = M cq 3 := congrFun (fM30 cq (by first | omega | (dsimp only; omega))) 3
  have c4M3 : M3 cq 4 = M cq 4 := congrFun (fM30 cq (by first | omega | (dsimp only; omega))) 4
  have c5M3 : M3 cq 5 = M cq 5 := congrFun (fM30 cq (by first | omega | (dsimp only; omega))) 5
  have c6M3 : M3 cq 6 = M cq 6 := congrFun (fM30 cq (by first | omega | (dsimp only; omega))) 6
  have c7M3 : M3 cq 7 = M cq 7 := congrFun (fM30 cq (by first | omega | (dsimp only; omega))) 7
  have chM3 : M3 cq = M cq := (fM30 cq (by first | omega | (dsimp only; omega)))
  refine g_if_eq (pc' := 13) (tgt := 26) ⟨by omega, by omega⟩ dX2_readTimes_10 rfl rfl (fun c4 => ?_) (fun c4 => ?_)
  · refine g_iconst (pc' := 27) dX2_readTimes_26 rfl ?_
    refine g_putI (pc' := 30) dX2_readTimes_27 rfl p_X2_114 (clS hcq) rfl (by decide) (fun M5 hM5 => ?_)
    have fqM5 : ∀ q : Nat, q = cq → M3 q = M q := fun q hq => by subst hq; exact chM3
    have iM5 : IC M5 := IC.wr iM3 hM5 (by unfold okw isT; first | decide | omega)
    have fM5 : Fr (fun c => c = 31 ∨ c = cq) M M5 := Fr.wr fM3 hM5 (by first | decide | omega | (dsimp only; omega))
    have q31_1_M5 : id (M5 31 1 = M 31 1) := (show M5 31 1 = M3 31 1 by rw [hM5]; exact mu_ne _ _ (by first | decide | omega)).trans q31_1_M3
    have q37_1_M5 : id (M5 37 1 = M 37 1) := (show M5 37 1 = M3 37 1 by rw [hM5]; exact mu_ne _ _ (by first | decide | omega)).trans q37_1_M3
    have wM5_30_2 : M5 30 2 = M3 30 2 := by rw [hM5]; exact mu_ne _ _ (by first | decide | omega)
    have wM5_31_7 : M5 31 7 = M3 31 7 := by rw [hM5]; exact mu_ne _ _ (by first | decide | omega)
    have wM5_37_4 : M5 37 4 = M3 37 4 := by rw [hM5]; exact mu_ne _ _ (by first | decide | omega)
    have tsM5 : TS M5 K W m := TS.fr tsM3 (P := fun q => q = cq) (fun q hq => by rw [hM5]; exact mu_cell _ _ hq) (fun q h1 h2 => by show ¬ q = cq; omega)
    have k39M5 : M5 39 = M 39 := (show M5 39 = M3 39 by rw [hM5]; exact mu_cell _ _ (by first | decide | omega)).trans k39M3
    have k40M5 : M5 40 = M 40 := (show M5 40 = M3 40 by rw [hM5]; exact mu_cell _ _ (by first | decide | omega)).trans k40M3
    have xkM5 : M5 cq 4 = 1 := by rw [hM5]; exact mu_at _ _ _ _
    have xoM5 : ∀ q : Nat, q ≠ 4 → M5 cq q = M3 cq q := fun q hq => by rw [hM5]; exact mu_ne _ _ (fun _ => hq)
    have c0M5 : M5 cq 0 = M3 cq 0 := xoM5 0 (by decide)
    have c1M5 : M5 cq 1 = M3 cq 1 := xoM5 1 (by decide)
    have c2M5 : M5 cq 2 = M3 cq 2 := xoM5 2 (by decide)
    have c3M5 : M5 cq 3 = M3 cq 3 := xoM5 3 (by decide)
    have c5M5 : M5 cq 5 = M3 cq 5 := xoM5 5 (by decide)
    have c6M5 : M5 cq 6 = M3 cq 6 := xoM5 6 (by decide)
    have c7M5 : M5 cq 7 = M3 cq 7 := xoM5 7 (by decide)
    refine g_aload_n (pc' := 31) 1 dX2_readTimes_30 rfl rfl ?_
    refine g_getI (pc' := 34) dX2_readTimes_31 rfl f_X2_114 (clS hcq) rfl (fun v6 ev6 rv6 => ?_)
    refine g_iconst (pc' := 35) dX2_readTimes_34 rfl ?_
    refine g_ic_eq (pc' := 38) (tgt := 42) rv6 (by decide) dX2_readTimes_35 rfl rfl (fun c7 => ?_) (fun c7 => ?_)
    · refine g_iconst (pc' := 43) dX2_readTimes_42 rfl ?_
      refine g_zreturn dX2_readTimes_43 (by omega) ?_
      exact False.elim (by omega)
    · refine g_iconst (pc' := 39) dX2_readTimes_38 rfl ?_
      refine g_goto (tgt := 43) dX2_readTimes_39 rfl ?_
      refine g_zreturn dX2_readTimes_43 (by omega) ?_
      exact ⟨iM5, fM5, q31_1_M5, q37_1_M5, by omega, i, lv, by omega, by omega, by omega, by omega, (by rw [sTm_n (by omega)]; exact STq.y), (fun q h => (xoM5 q h).trans (congrFun (fqM5 cq (by first | omega | (dsimp only; omega))) q)), fun _ => ⟨⟨by unfold cTv; rw [if_neg (by omega)]; omega, by omega, by omega⟩, rfl⟩⟩
  · have hw1 : K (i + 1) = 2 → 0 ≤ W (i + 1) := fun z => (hts.num (by omega) z).2
    refine g_aload_n (pc' := 14) 0 dX2_readTimes_13 rfl rfl ?_
    refine g_getR (pc' := 17) dX2_readTimes_14 rfl f_X2_12 rfl rfl ?_
    refine g_iconst (pc' := 18) dX2_readTimes_17 rfl ?_
    refine g_bipush (pc' := 20) (v := 20) dX2_readTimes_18 rfl (by decide) ?_
    refine g_callVi (pc' := 23) (As := [vi 1, vi 20]) (b := 31) (S := [vr X cq]) dX2_readTimes_20 rfl m_X2_87 w_X8_takeNumber (c_X8_takeNumber_x X M3 iM3 1 (by decide) 20 (by decide) K W m (i + 1) tsM3 (by omega) (by omega) (by omega)) rfl ⟨_, _, _, rfl, rfl, rfl⟩ (by decide) (by decide) rfl (Nat.le_of_ble_eq_true rfl) (fun z9 M10 q8 => ?_)
    obtain ⟨iM10, fM100, eM10_31_1, pM10⟩ := q8
    have fM10 : Fr (fun c => c = 31 ∨ c = cq) M M10 := Fr.tr fM3 fM100 (fun c z => by first | omega | (dsimp only at z ⊢; omega))
    have q31_1_M10 : id (M10 31 1 = M 31 1) := eM10_31_1.trans q31_1_M3
    have q37_1_M10 : id (M10 37 1 = M 37 1) := (congrFun (fM100 37 (by first | decide | omega | (dsimp only; omega))) 1).trans q37_1_M3
    have wM10_30_2 : M10 30 2 = M3 30 2 := (congrFun (fM100 30 (by first | decide | omega | (dsimp only; omega))) 2)
    have wM10_37_4 : M10 37 4 = M3 37 4 := (congrFun (fM100 37 (by first | decide | omega | (dsimp only; omega))) 4)
    clear eM10_31_1
    have tsM10 : TS M10 K W m := TS.fr tsM3 fM100 (fun c h1 h2 => by first | omega | (dsimp only; omega))
    have k39M10 : M10 39 = M 39 := (fM100 39 (by first | decide | omega | (dsimp only; omega))).trans k39M3
    have k40M10 : M10 40 = M 40 := (fM100 40 (by first | decide | omega | (dsimp only; omega))).trans k40M3
    have c0M10 : M10 cq 0 = M3 cq 0 := congrFun (fM100 cq (by first | omega | (dsimp only; omega))) 0
    have c1M10 : M10 cq 1 = M3 cq 1 := congrFun (fM100 cq (by first | omega | (dsimp only; omega))) 1
    have c2M10 : M10 cq 2 = M3 cq 2 := congrFun (fM100 cq (by first | omega | (dsimp only; omega))) 2
    have c3M10 : M10 cq 3 = M3 cq 3 := congrFun (fM100 cq (by first | omega | (dsimp only; omega))) 3
    have c4M10 : M10 cq 4 = M3 cq 4 := congrFun (fM100 cq (by first | omega | (dsimp only; omega))) 4
    have c5M10 : M10 cq 5 = M3 cq 5 := congrFun (fM100 cq (by first | omega | (dsimp only; omega))) 5
    have c6M10 : M10 cq 6 = M3 cq 6 := congrFun (fM100 cq (by first | omega | (dsimp only; omega))) 6
    have c7M10 : M10 cq 7 = M3 cq 7 := congrFun (fM100 cq (by first | omega | (dsimp only; omega))) 7
    have chM10 : M10 cq = M cq := (fM100 cq (by first | omega | (dsimp only; omega))).trans chM3
    refine g_goto (tgt := 27) dX2_readTimes_23 rfl ?_
    refine g_putI (pc' := 30) dX2_readTimes_27 rfl p_X2_114 (clS hcq) rfl ⟨by omega, by omega⟩ (fun M11 hM11 => ?_)
    have fqM11 : ∀ q : Nat, q = cq → M10 q = M q := fun q hq => by subst hq; exact chM10
    have iM11 : IC M11 := IC.wr iM10 hM11 (by unfold okw isT; first | decide | omega)
    have fM11 : Fr (fun c => c = 31 ∨ c = cq) M M11 := Fr.wr fM10 hM11 (by first | decide | omega | (dsimp only; omega))
    have q31_1_M11 : id (M11 31 1 = M 31 1) := (show M11 31 1 = M10 31 1 by rw [hM11]; exact mu_ne _ _ (by first | decide | omega)).trans q31_1_M10
    have q37_1_M11 : id (M11 37 1 = M 37 1) := (show M11 37 1 = M10 37 1 by rw [hM11]; exact mu_ne _ _ (by first | decide | omega)).trans q37_1_M10
    have wM11_30_2 : M11 30 2 = M10 30 2 := by rw [hM11]; exact mu_ne _ _ (by first | decide | omega)
    have wM11_31_7 : M11 31 7 = M10 31 7 := by rw [hM11]; exact mu_ne _ _ (by first | decide | omega)
    have wM11_37_4 : M11 37 4 = M10 37 4 := by rw [hM11]; exact mu_ne _ _ (by first | decide | omega)
    have tsM11 : TS M11 K W m := TS.fr tsM10 (P := fun q => q = cq) (fun q hq => by rw [hM11]; exact mu_cell _ _ hq) (fun q h1 h2 => by show ¬ q = cq; omega)
    have k39M11 : M11 39 = M 39 := (show M11 39 = M10 39 by rw [hM11]; exact mu_cell _ _ (by first | decide | omega)).trans k39M10
    have k40M11 : M11 40 = M 40 := (show M11 40 = M10 40 by rw [hM11]; exact mu_cell _ _ (by first | decide | omega)).trans k40M10
    have xkM11 : M11 cq 4 = z9 := by rw [hM11]; exact mu_at _ _ _ _
    have xoM11 : ∀ q : Nat, q ≠ 4 → M11 cq q = M10 cq q := fun q hq => by rw [hM11]; exact mu_ne _ _ (fun _ => hq)
    have c0M11 : M11 cq 0 = M10 cq 0 := xoM11 0 (by decide)
    have c1M11 : M11 cq 1 = M10 cq 1 := xoM11 1 (by decide)
    have c2M11 : M11 cq 2 = M10 cq 2 := xoM11 2 (by decide)
    have c3M11 : M11 cq 3 = M10 cq 3 := xoM11 3 (by decide)
    have c5M11 : M11 cq 5 = M10 cq 5 := xoM11 5 (by decide)
    have c6M11 : M11 cq 6 = M10 cq 6 := xoM11 6 (by decide)
    have c7M11 : M11 cq 7 = M10 cq 7 := xoM11 7 (by decide)
    refine g_aload_n (pc' := 31) 1 dX2_readTimes_30 rfl rfl ?_
    refine g_getI (pc' := 34) dX2_readTimes_31 rfl f_X2_114 (clS hcq) rfl (fun v12 ev12 rv12 => ?_)
    refine g_iconst (pc' := 35) dX2_readTimes_34 rfl ?_
    refine g_ic_eq (pc' := 38) (tgt := 42) rv12 (by decide) dX2_readTimes_35 rfl rfl (fun c13 => ?_) (fun c13 => ?_)
    · refine g_iconst (pc' := 43) dX2_readTimes_42 rfl ?_
      refine g_zreturn dX2_readTimes_43 (by omega) ?_
      exact ⟨iM11, fM11, q31_1_M11, q37_1_M11, by omega, i + 1, lv, by omega, by omega, by omega, by omega, (by rw [sTm_1 (by omega), sN_n (by omega)]; exact STq.n), (fun q h => (xoM11 q h).trans (congrFun (fqM11 cq (by first | omega | (dsimp only; omega))) q)), fun z => absurd z (by decide)⟩
    · refine g_iconst (pc' := 39) dX2_readTimes_38 rfl ?_
      refine g_goto (tgt := 43) dX2_readTimes_39 rfl ?_
      refine g_zreturn dX2_readTimes_43 (by omega) ?_
      exact ⟨iM11, fM11, q31_1_M11, q37_1_M11, by omega, i + 1 + 1, lv, by omega, by omega, by omega, by omega, (by rw [sTm_1 (by omega), sN_1 (by omega)]; exact STq.y), (fun q h => (xoM11 q h).trans (congrFun (fqM11 cq (by first | omega | (dsimp only; omega))) q)), fun _ => ⟨⟨by unfold cTv; rw [if_pos (by omega)]; omega, by omega, by omega⟩, rfl⟩⟩
set_option maxHeartbeats 4000000 in
set_option maxRecDepth 100000 in
theorem j_X2_readIf_y_26 (X : Cx) (M : Mm) (hi : IC M) (cq : Nat) (hcq : 41 ≤ cq ∧ cq ≤ 52) (K W : Nat → Int) (m i : Nat) (hts : TS M K W m) (hat : M 31 7 = (i : Int)) (him : i ≤ m) (lv : Int) (hlv : M 30 2 = lv) (hsl : 0 ≤ M 37 4 ∧ M 37 4 ≤ (i : Int)) (re : Int) (M1 : Mm) (ic1 : IC M1) (fr1 : Fr (fun c => c = 30 ∨ c = 31 ∨ c = 37 ∨ c = 39 ∨ c = 40 ∨ c = cq) M M1) (q31_1 : id (M1 31 1 = M 31 1)) (q37_1 : id (M1 37 1 = M 37 1)) (h2 : re = 0 ∨ re = 1) (jx : Nat) (lx : Int) (at1 : M1 31 7 = (jx : Int)) (lv1 : M1 30 2 = lx) (ij : i ≤ jx ∧ jx ≤ m) (ts1 : TS M1 K W m) (rt : STq (sIf K W (1, i, lv)) re jx lx) (cc : M1 cq = M cq) (rd : re = 1 → (M 37 4 ≤ M1 37 4 ∧ M1 37 4 - M 37 4 ≤ (jx : Int) - i) ∧ CDS M M1 ∧ ((K i = 1 ∧ W i = 294) → (lv < lx ∧ lx ≤ 50) ∧ MC (M1 39) (M1 40) (M 37 4).toNat (M1 37 4).toNat (lx - lv) (exM K W true (i + 1) lv)) ∧ (¬ (K i = 1 ∧ W i = 294) → M1 37 4 = M 37 4 ∧ lx = lv)) : G X 41 RX2 cX2_readIf 3 (some .boolean) (Qi (fun r M1 => IC M1 ∧ Fr (fun c => c = 30 ∨ c = 31 ∨ c = 37 ∨ c = 39 ∨ c = 40 ∨ c = cq) M M1 ∧ M1 31 1 = M 31 1 ∧ M1 37 1 = M 37 1 ∧ ((r = 0 ∨ r = 1) ∧ ∃ (j : Nat) (lv1 : Int), M1 31 7 = (j : Int) ∧ M1 30 2 = lv1 ∧ i ≤ j ∧ j ≤ m ∧ STq (sIf K W (1, i, lv)) r j lv1 ∧ (∀ q : Nat, q ≠ 7 → M1 cq q = M cq q) ∧ M1 cq 7 = M1 37 4 ∧ (r = 1 → (M 37 4 ≤ M1 37 4 ∧ M1 37 4 - M 37 4 ≤ (j : Int) - i) ∧ CDS M M1 ∧ ((K i = 1 ∧ W i = 294) → (lv < lv1 ∧ lv1 ≤ 50) ∧ MC (M1 39) (M1 40) (M 37 4).toNat (M1 37 4).toNat (lv1 - lv) (exM K W true (i + 1) lv)) ∧ (¬ (K i = 1 ∧ W i = 294) → M1 37 4 = M 37 4 ∧ lv1 = lv))))) 26 [(2, vi re), (0, vr X 30), (1, vr X cq)] [] M1 := by
  refine g_aload_n (pc' := 27) 2 dX2_readIf_26 rfl rfl ?_
  refine g_aload_n (pc' := 28) 1 dX2_readIf_27 rfl rfl ?_
  refine g_getR (pc' := 31) dX2_readIf_28 rfl f_X2_21 rfl rfl ?_
  refine g_getI (pc' := 34) dX2_readIf_31 rfl f_X2_29 rfl rfl (fun v1 ev1 rv1 => ?_)
  have bv1 : 0 ≤ v1 ∧ v1 ≤ 400 := by rw [ev1]; exact ic1.2.2.2.1.1
  refine g_putI (pc' := 37) dX2_readIf_34 rfl p_X2_121 (clS hcq) rfl rv1 (fun M2 hM2 => ?_)
  have fqM2 : ∀ q : Nat, q = cq → M1 q = M q := fun q hq => by subst hq; exact cc
  have iM2 : IC M2 := IC.wr ic1 hM2 (by unfold okw isT; first | decide | omega)
  have fM2 : Fr (fun c => c = 30 ∨ c = 31 ∨ c = 37 ∨ c = 39 ∨ c = 40 ∨ c = cq) M M2 := Fr.wr fr1 hM2 (by first | decide | omega | (dsimp only; omega))
  have q31_1_M2 : id (M2 31 1 = M 31 1) := (show M2 31 1 = M1 31 1 by rw [hM2]; exact mu_ne _ _ (by first | decide | omega)).trans q31_1
  have q37_1_M2 : id (M2 37 1 = M 37 1) := (show M2 37 1 = M1 37 1 by rw [hM2]; exact mu_ne _ _ (by first | decide | omega)).trans q37_1
  have wM2_30_2 : M2 30 2 = M1 30 2 := by rw [hM2]; exact mu_ne _ _ (by first | decide | omega)
  have wM2_31_7 : M2 31 7 = M1 31 7 := by rw [hM2]; exact mu_ne _ _ (by first | decide | omega)
  have wM2_37_4 : M2 37 4 = M1 37 4 := by rw [hM2]; exact mu_ne _ _ (by first | decide | omega)
  have tsM2 : TS M2 K W m := TS.fr ts1 (P := fun q => q = cq) (fun q hq => by rw [hM2]; exact mu_cell _ _ hq) (fun q h1 h2 => by show ¬ q = cq; omega)
  have k39M2 : M2 39 = M1 39 := (show M2 39 = M1 39 by rw [hM2]; exact mu_cell _ _ (by first | decide | omega))
  have k40M2 : M2 40 = M1 40 := (show M2 40 = M1 40 by rw [hM2]; exact mu_cell _ _ (by first | decide | omega))
  have xkM2 : M2 cq 7 = v1 := by rw [hM2]; exact mu_at _ _ _ _
  have xoM2 : ∀ q : Nat, q ≠ 7 → M2 cq q = M1 cq q := fun q hq => by rw [hM2]; exact mu_ne _ _ (fun _ => hq)
  have c0M2 : M2 cq 0 = M1 cq 0 := xoM2 0 (by decide)
  have c1M2 : M2 cq 1 = M1 cq 1 := xoM2 1 (by decide)
  have c2M2 : M2 cq 2 = M1 cq 2 := xoM2 2 (by decide)
  have c3M2 : M2 cq 3 = M1 cq 3 := xoM2 3 (by decide)
  have c4M2 : M2 cq 4 = M1 cq 4 := xoM2 4 (by decide)
  have c5M2 : M2 cq 5 = M1 cq 5 := xoM2 5 (by decide)
  have c6M2 : M2 cq 6 = M1 cq 6 := xoM2 6 (by decide)
  refine g_iload_n (pc' := 38) 0 dX2_readIf_37 rfl rfl ?_
  refine g_zreturn dX2_readIf_38 (by omega) ?_
  exact ⟨iM2, fM2, q31_1_M2, q37_1_M2, by omega, jx, lx, by omega, by omega, by omega, by omega, rt, (fun q h => (xoM2 q h).trans (by rw [cc])), by omega, fun z => ⟨by have := (rd z).1; omega, (rd z).2.1.tr (CDS.eq (by omega) k39M2 k40M2), fun y => ⟨((rd z).2.2.1 y).1, by rw [k39M2, k40M2, show M2 37 4 = M1 37 4 by omega]; exact ((rd z).2.2.1 y).2⟩, fun y => by have := (rd z).2.2.2 y; omega⟩⟩
set_option maxHeartbeats 4000000 in
set_option maxRecDepth 100000 in
theorem c_X2_readIf_y (X : Cx) (M : Mm) (hi : IC M) (cq : Nat) (hcq : 41 ≤ cq ∧ cq ≤ 52) (K W : Nat → Int) (m i : Nat) (hts : TS M K W m) (hat : M 31 7 = (i : Int)) (him : i ≤ m) (lv : Int) (hlv : M 30 2 = lv) (hsl : 0 ≤ M 37 4 ∧ M 37 4 ≤ (i : Int)) : Con X 41 yX2_readIf cX2_readIf 3 (some .boolean) [vr X 30, vr X cq] M (Qi (fun r M1 => IC M1 ∧ Fr (fun c => c = 30 ∨ c = 31 ∨ c = 37 ∨ c = 39 ∨ c = 40 ∨ c = cq) M M1 ∧ M1 31 1 = M 31 1 ∧ M1 37 1 = M 37 1 ∧ ((r = 0 ∨ r = 1) ∧ ∃ (j : Nat) (lv1 : Int), M1 31 7 = (j : Int) ∧ M1 30 2 = lv1 ∧ i ≤ j ∧ j ≤ m ∧ STq (sIf K W (1, i, lv)) r j lv1 ∧ (∀ q : Nat, q ≠ 7 → M1 cq q = M cq q) ∧ M1 cq 7 = M1 37 4 ∧ (r = 1 → (M 37 4 ≤ M1 37 4 ∧ M1 37 4 - M 37 4 ≤ (j : Int) - i) ∧ CDS M M1 ∧ ((K i = 1 ∧ W i = 294) → (lv < lv1 ∧ lv1 ≤ 50) ∧ MC (M1 39) (M1 40) (M 37 4).toNat (M1 37 4).toNat (lv1 - lv) (exM K W true (i + 1) lv)) ∧ (¬ (K i = 1 ∧ W i = 294) → M1 37 4 = M 37 4 ∧ lv1 = lv))))) := by
  refine Con.ofG rfl (Nat.le_of_ble_eq_true rfl) ?_
  show G X 41 RX2 cX2_readIf 3 (some .boolean) (Qi (fun r M1 => IC M1 ∧ Fr (fun c => c = 30 ∨ c = 31 ∨ c = 37 ∨ c = 39 ∨ c = 40 ∨ c = cq) M M1 ∧ M1 31 1 = M 31 1 ∧ M1 37 1 = M 37 1 ∧ ((r = 0 ∨ r = 1) ∧ ∃ (j : Nat) (lv1 : Int), M1 31 7 = (j : Int) ∧ M1 30 2 = lv1 ∧ i ≤ j ∧ j ≤ m ∧ STq (sIf K W (1, i, lv)) r j lv1 ∧ (∀ q : Nat, q ≠ 7 → M1 cq q = M cq q) ∧ M1 cq 7 = M1 37 4 ∧ (r = 1 → (M 37 4 ≤ M1 37 4 ∧ M1 37 4 - M 37 4 ≤ (j : Int) - i) ∧ CDS M M1 ∧ ((K i = 1 ∧ W i = 294) → (lv < lv1 ∧ lv1 ≤ 50) ∧ MC (M1 39) (M1 40) (M 37 4).toNat (M1 37 4).toNat (lv1 - lv) (exM K W true (i + 1) lv)) ∧ (¬ (K i = 1 ∧ W i = 294) → M1 37 4 = M 37 4 ∧ lv1 = lv))))) 0 [(0, vr X 30), (1, vr X cq)] [] M
  have hm4 := hts.m4
  refine g_aload_n (pc' := 1) 0 dX2_readIf_0 rfl rfl ?_
  refine g_getR (pc' := 4) dX2_readIf_1 rfl f_X2_12 rfl rfl ?_
  refine g_ldcS (pc' := 6) (j := 10) dX2_readIf_4 rfl rfl ?_
  refine g_callVi (pc' := 9) (As := [vs X 10]) (b := 31) (S := []) dX2_readIf_6 rfl m_X2_65 w_X8_takeWord (c_X8_takeWord_x X M hi 10 (by decide) K W m i hts hat him) rfl ⟨_, _, _, rfl, rfl, rfl⟩ (by decide) (by decide) rfl (Nat.le_of_ble_eq_true rfl) (fun z2 M3 q1 => ?_)
  obtain ⟨iM3, fM30, eM3_31_1, pM3⟩ := q1
  have fM3 : Fr (fun c => c = 30 ∨ c = 31 ∨ c = 37 ∨ c = 39 ∨ c = 40 ∨ c = cq) M M3 := Fr.tr Fr.rf fM30 (fun c z => by first | omega | (dsimp only at z ⊢; omega))
  have q31_1_M3 : id (M3 31 1 = M 31 1) := eM3_31_1
  have q37_1_M3 : id (M3 37 1 = M 37 1) := (congrFun (fM30 37 (by first | decide | omega | (dsimp only; omega))) 1)
  have wM3_30_2 : M3 30 2 = M 30 2 := (congrFun (fM30 30 (by first | decide | omega | (dsimp only; omega))) 2)
  have wM3_37_4 : M3 37 4 = M 37 4 := (congrFun (fM30 37 (by first | decide | omega | (dsimp only; omega))) 4)
  clear eM3_31_1
  have tsM3 : TS M3 K W m := TS.fr hts fM30 (fun c h1 h2 => by first | omega | (dsimp only; omega))
  rw [cw_10] at pM3
  have k39M3 : M3 39 = M 39 := (fM30 39 (by first | decide | omega | (dsimp only; omega)))
  have k40M3 : M3 40 = M 40 := (fM30 40 (by first | decide | omega | (dsimp only; omega)))
  have c0M3 : M3 cq 0 = M cq 0 := congrFun (fM30 cq (by first | omega | (dsimp only; omega))) 0
  have c1M3 : M3 cq 1 = M cq 1 := congrFun (fM30 cq (by first | omega | (dsimp only; omega))) 1
  have c2M3 : M3 cq 2 = M cq 2 := congrFun (fM30 cq (by first | omega | (dsimp only; omega))) 2
  have c3M3 : M3 cq 3 = M cq 3 := congrFun (fM30 cq (by first | omega | (dsimp only; omega))) 3
  have c4M3 : M3 cq 4 = M cq 4 := congrFun (fM30 cq (by first | omega | (dsimp only; omega))) 4
  have c5M3 : M3 cq 5 = M cq 5 := congrFun (fM30 cq (by first | omega | (dsimp only; omega))) 5
  have c6M3 : M3 cq 6 = M cq 6 := congrFun (fM30 cq (by first | omega | (dsimp only; omega))) 6
  have c7M3 : M3 cq 7 = M cq 7 := congrFun (fM30 cq (by first | omega | (dsimp only; omega))) 7
  have chM3 : M3 cq = M cq := (fM30 cq (by first | omega | (dsimp only; omega)))
  refine g_if_eq (pc' := 12) (tgt := 20) ⟨by omega, by omega⟩ dX2_readIf_9 rfl rfl (fun c4 => ?_) (fun c4 => ?_)
  · refine g_iconst (pc' := 21) dX2_readIf_20 rfl ?_
    refine g_goto (tgt := 25) dX2_readIf_21 rfl ?_
    refine g_istore_n (pc' := 26) (i := 2) (L' := [(2, vi 1), (0, vr X 30), (1, vr X cq)]) dX2_readIf_25 rfl rfl (by decide) rfl ?_
    refine g_sub [0, 1, 2] rfl ?_
    exact j_X2_readIf_y_26 X M hi cq hcq K W m i hts hat him lv hlv hsl 1 M3 iM3 fM3 q31_1_M3 q37_1_M3 (by omega) i lv (by omega) (by omega) (by omega) tsM3 (by rw [sIf_n (by omega)]; exact STq.y) chM3 (fun _ => ⟨by omega, CDS.eq (M := M) (by omega) k39M3 k40M3, fun z => absurd z (by omega), fun _ => by omega⟩)
  · refine g_aload_n (pc' := 13) 0 dX2_readIf_12 rfl rfl ?_
    refine g_iconst (pc' := 14) dX2_readIf_13 rfl ?_
    refine g_callVi (pc' := 17) (As := [vi 0]) (b := 30) (S := []) dX2_readIf_14 rfl m_X2_118 w_X2_readTest (r_readTest_y X K W m _ 0 (by omega) (by omega) rfl M3 iM3 (i + 1) lv tsM3 (by omega) (by omega) (by omega) (by omega)) rfl ⟨_, _, _, rfl, rfl, rfl⟩ (by decide) (by decide) rfl (Nat.le_of_ble_eq_true rfl) (fun z6 M7 q5 => ?_)
    obtain ⟨iM7, fM70, eM7_31_1, eM7_37_1, pM7⟩ := q5
    have fM7 : Fr (fun c => c = 30 ∨ c = 31 ∨ c = 37 ∨ c = 39 ∨ c = 40 ∨ c = cq) M M7 := Fr.tr fM3 fM70 (fun c z => by first | omega | (dsimp only at z ⊢; omega))
    have q31_1_M7 : id (M7 31 1 = M 31 1) := eM7_31_1.trans q31_1_M3
    have q37_1_M7 : id (M7 37 1 = M 37 1) := eM7_37_1.trans q37_1_M3
    clear eM7_31_1 eM7_37_1
    have tsM7 : TS M7 K W m := TS.fr tsM3 fM70 (fun c h1 h2 => by first | omega | (dsimp only; omega))
    obtain ⟨pzM7, jM7, lvM7, paM7, plM7, piM7, pmM7, yM7⟩ := pM7
    have gM7 := yM7.rs
    have c0M7 : M7 cq 0 = M3 cq 0 := congrFun (fM70 cq (by first | omega | (dsimp only; omega))) 0
    have c1M7 : M7 cq 1 = M3 cq 1 := congrFun (fM70 cq (by first | omega | (dsimp only; omega))) 1
    have c2M7 : M7 cq 2 = M3 cq 2 := congrFun (fM70 cq (by first | omega | (dsimp only; omega))) 2
    have c3M7 : M7 cq 3 = M3 cq 3 := congrFun (fM70 cq (by first | omega | (dsimp only; omega))) 3
    have c4M7 : M7 cq 4 = M3 cq 4 := congrFun (fM70 cq (by first | omega | (dsimp only; omega))) 4
    have c5M7 : M7 cq 5 = M3 cq 5 := congrFun (fM70 cq (by first | omega | (dsimp only; omega))) 5
    have c6M7 : M7 cq 6 = M3 cq 6 := congrFun (fM70 cq (by first | omega | (dsimp only; omega))) 6
    have c7M7 : M7 cq 7 = M3 cq 7 := congrFun (fM70 cq (by first | omega | (dsimp only; omega))) 7
    have chM7 : M7 cq = M cq := (fM70 cq (by first | omega | (dsimp only; omega))).trans chM3
    refine g_if_eq (pc' := 20) (tgt := 24) ⟨by omega, by omega⟩ dX2_readIf_17 rfl rfl (fun c8 => ?_) (fun c8 => ?_)
    · refine g_iconst (pc' := 25) dX2_readIf_24 rfl ?_
      refine g_istore_n (pc' := 26) (i := 2) (L' := [(2, vi 0), (0, vr X 30), (1, vr X cq)]) dX2_readIf_25 rfl rfl (by decide) rfl ?_
      refine g_sub [0, 1, 2] rfl ?_
      exact j_X2_readIf_y_26 X M hi cq hcq K W m i hts hat him lv hlv hsl 0 M7 iM7 fM7 q31_1_M7 q37_1_M7 (by omega) jM7 lvM7 (by omega) (by omega) (by omega) tsM7 (by rw [sIf_1 (by omega)]; exact (exF_T gM7 (by omega)).r (by omega)) chM7 (fun z => absurd z (by decide))
    · refine g_iconst (pc' := 21) dX2_readIf_20 rfl ?_
      refine g_goto (tgt := 25) dX2_readIf_21 rfl ?_
      refine g_istore_n (pc' := 26) (i := 2) (L' := [(2, vi 1), (0, vr X 30), (1, vr X cq)]) dX2_readIf_25 rfl rfl (by decide) rfl ?_
      refine g_sub [0, 1, 2] rfl ?_
      exact j_X2_readIf_y_26 X M hi cq hcq K W m i hts hat him lv hlv hsl 1 M7 iM7 fM7 q31_1_M7 q37_1_M7 (by omega) jM7 lvM7 (by omega) (by omega) (by omega) tsM7 (by rw [sIf_1 (by omega)]; exact (exF_T gM7 (by omega)).r (by omega)) chM7 (fun _ => by
          have yy := (yM7.2 (by omega))
          have yl := yy.2.1
          refine ⟨by omega, (CDS.eq (M := M) (M1 := M3) (by omega) k39M3 k40M3).tr yy.2.2.1, fun _ => ⟨yy.2.2.2.1, ?_⟩, fun z => absurd (show (K i = 1 ∧ W i = 294) by omega) z⟩
          have mm := yy.2.2.2.2.exM yy.1
          rw [show M 37 4 = M3 37 4 by omega]
          exact mm.1)
set_option maxHeartbeats 4000000 in
set_option maxRecDepth 100000 in
theorem c_X2_readMove_y (X : Cx) (M : Mm) (hi : IC M) (cq : Nat) (hcq : 41 ≤ cq ∧ cq ≤ 52) (K W : Nat → Int) (m i : Nat) (hts : TS M K W m) (hat : M 31 7 = (i : Int)) (him : i ≤ m) (lv : Int) (hlv : M 30 2 = lv) (hsl : 0 ≤ M 37 4 ∧ M 37 4 ≤ (i : Int)) : Con X 38 yX2_readMove cX2_readMove 2 (some .boolean) [vr X 30, vr X cq] M (Qi (fun r M1 => IC M1 ∧ Fr (fun c => c = 30 ∨ c = 31 ∨ c = 37 ∨ c = 39 ∨ c = 40 ∨ c = cq) M M1 ∧ M1 31 1 = M 31 1 ∧ M1 37 1 = M 37 1 ∧ ((r = 0 ∨ r = 1) ∧ ∃ (j : Nat) (lv1 : Int), M1 31 7 = (j : Int) ∧ M1 30 2 = lv1 ∧ i ≤ j ∧ j ≤ m ∧ STq (sMv K W i lv) r j lv1 ∧ (r = 1 → MVD K W i lv M M1 cq j lv1)))) := by
  refine Con.ofG rfl (Nat.le_of_ble_eq_true rfl) ?_
  show G X 38 RX2 cX2_readMove 2 (some .boolean) (Qi (fun r M1 => IC M1 ∧ Fr (fun c => c = 30 ∨ c = 31 ∨ c = 37 ∨ c = 39 ∨ c = 40 ∨ c = cq) M M1 ∧ M1 31 1 = M 31 1 ∧ M1 37 1 = M 37 1 ∧ ((r = 0 ∨ r = 1) ∧ ∃ (j : Nat) (lv1 : Int), M1 31 7 = (j : Int) ∧ M1 30 2 = lv1 ∧ i ≤ j ∧ j ≤ m ∧ STq (sMv K W i lv) r j lv1 ∧ (r = 1 → MVD K W i lv M M1 cq j lv1)))) 0 [(0, vr X 30), (1, vr X cq)] [] M
  have hm4 := hts.m4
  refine g_aload_n (pc' := 1) 0 dX2_readMove_0 rfl rfl ?_
  refine g_getR (pc' := 4) dX2_readMove_1 rfl f_X2_12 rfl rfl ?_
  refine g_ldcS (pc' := 6) (j := 0) dX2_readMove_4 rfl rfl ?_
  refine g_callVi (pc' := 9) (As := [vs X 0]) (b := 31) (S := []) dX2_readMove_6 rfl m_X2_65 w_X8_takeWord (c_X8_takeWord_x X M hi 0 (by decide) K W m i hts hat him) rfl ⟨_, _, _, rfl, rfl, rfl⟩ (by decide) (by decide) rfl (Nat.le_of_ble_eq_true rfl) (fun z2 M3 q1 => ?_)
  obtain ⟨iM3, fM30, eM3_31_1, pM3⟩ := q1
  have fM3 : Fr (fun c => c = 30 ∨ c = 31 ∨ c = 37 ∨ c = 39 ∨ c = 40 ∨ c = cq) M M3 := Fr.tr Fr.rf fM30 (fun c z => by first | omega | (dsimp only at z ⊢; omega))
  have q31_1_M3 : id (M3 31 1 = M 31 1) := eM3_31_1
  have q37_1_M3 : id (M3 37 1 = M 37 1) := (congrFun (fM30 37 (by first | decide | omega | (dsimp only; omega))) 1)
  have wM3_30_2 : M3 30 2 = M 30 2 := (congrFun (fM30 30 (by first | decide | omega | (dsimp only; omega))) 2)
  have wM3_37_4 : M3 37 4 = M 37 4 := (congrFun (fM30 37 (by first | decide | omega | (dsimp only; omega))) 4)
  clear eM3_31_1
  have tsM3 : TS M3 K W m := TS.fr hts fM30 (fun c h1 h2 => by first | omega | (dsimp only; omega))
  rw [cw_0] at pM3
  have k39M3 : M3 39 = M 39 := (fM30 39 (by first | decide | omega | (dsimp only; omega)))
  have k40M3 : M3 40 = M 40 := (fM30 40 (by first | decide | omega | (dsimp only; omega)))
  have c0M3 : M3 cq 0 = M cq 0 := congrFun (fM30 cq (by first | omega | (dsimp only; omega))) 0
  have c1M3 : M3 cq 1 = M cq 1 := congrFun (fM30 cq (by first | omega | (dsimp only; omega))) 1
  have c2M3 : M3 cq 2 = M cq 2 := congrFun (fM30 cq (by first | omega | (dsimp only; omega))) 2
  have c3M3 : M3 cq 3 = M cq 3 := congrFun (fM30 cq (by first | omega | (dsimp only; omega))) 3
  have c4M3 : M3 cq 4 = M cq 4 := congrFun (fM30 cq (by first | omega | (dsimp only; omega))) 4
  have c5M3 : M3 cq 5 = M cq 5 := congrFun (fM30 cq (by first | omega | (dsimp only; omega))) 5
  have c6M3 : M3 cq 6 = M cq 6 := congrFun (fM30 cq (by first | omega | (dsimp only; omega))) 6
  have c7M3 : M3 cq 7 = M cq 7 := congrFun (fM30 cq (by first | omega | (dsimp only; omega))) 7
  refine g_if_eq (pc' := 12) (tgt := 47) ⟨by omega, by omega⟩ dX2_readMove_9 rfl rfl (fun c4 => ?_) (fun c4 => ?_)
  · refine g_aload_n (pc' := 48) 0 dX2_readMove_47 rfl rfl ?_
    refine g_getR (pc' := 51) dX2_readMove_48 rfl f_X2_12 rfl rfl ?_
    refine g_ldcS (pc' := 53) (j := 7) dX2_readMove_51 rfl rfl ?_
    refine g_callVi (pc' := 56) (As := [vs X 7]) (b := 31) (S := []) dX2_readMove_53 rfl m_X2_65 w_X8_takeWord (c_X8_takeWord_x X M3 iM3 7 (by decide) K W m i tsM3 (by omega) (by omega)) rfl ⟨_, _, _, rfl, rfl, rfl⟩ (by decide) (by decide) rfl (Nat.le_of_ble_eq_true rfl) (fun z6 M7 q5 => ?_)
    obtain ⟨iM7, fM70, eM7_31_1, pM7⟩ := q5
    have fM7 : Fr (fun c => c = 30 ∨ c = 31 ∨ c = 37 ∨ c = 39 ∨ c = 40 ∨ c = cq) M M7 := Fr.tr fM3 fM70 (fun c z => by first | omega | (dsimp only at z ⊢; omega))
    have q31_1_M7 : id (M7 31 1 = M 31 1) := eM7_31_1.trans q31_1_M3
    have q37_1_M7 : id (M7 37 1 = M 37 1) := (congrFun (fM70 37 (by first | decide | omega | (dsimp only; omega))) 1).trans q37_1_M3
    have wM7_30_2 : M7 30 2 = M3 30 2 := (congrFun (fM70 30 (by first | decide | omega | (dsimp only; omega))) 2)
    have wM7_37_4 : M7 37 4 = M3 37 4 := (congrFun (fM70 37 (by first | decide | omega | (dsimp only; omega))) 4)
    clear eM7_31_1
    have tsM7 : TS M7 K W m := TS.fr tsM3 fM70 (fun c h1 h2 => by first | omega | (dsimp only; omega))
    rw [cw_7] at pM7
    have k39M7 : M7 39 = M 39 := (fM70 39 (by first | decide | omega | (dsimp only; omega))).trans k39M3
    have k40M7 : M7 40 = M 40 := (fM70 40 (by first | decide | omega | (dsimp only; omega))).trans k40M3
    have c0M7 : M7 cq 0 = M3 cq 0 := congrFun (fM70 cq (by first | omega | (dsimp only; omega))) 0
    have c1M7 : M7 cq 1 = M3 cq 1 := congrFun (fM70 cq (by first | omega | (dsimp only; omega))) 1
    have c2M7 : M7 cq 2 = M3 cq 2 := congrFun (fM70 cq (by first | omega | (dsimp only; omega))) 2
    have c3M7 : M7 cq 3 = M3 cq 3 := congrFun (fM70 cq (by first | omega | (dsimp only; omega))) 3
    have c4M7 : M7 cq 4 = M3 cq 4 := congrFun (fM70 cq (by first | omega | (dsimp only; omega))) 4
    have c5M7 : M7 cq 5 = M3 cq 5 := congrFun (fM70 cq (by first | omega | (dsimp only; omega))) 5
    have c6M7 : M7 cq 6 = M3 cq 6 := congrFun (fM70 cq (by first | omega | (dsimp only; omega))) 6
    have c7M7 : M7 cq 7 = M3 cq 7 := congrFun (fM70 cq (by first | omega | (dsimp only; omega))) 7
    refine g_if_eq (pc' := 59) (tgt := 86) ⟨by omega, by omega⟩ dX2_readMove_56 rfl rfl (fun c8 => ?_) (fun c8 => ?_)
    · refine g_aload_n (pc' := 87) 0 dX2_readMove_86 rfl rfl ?_
      refine g_getR (pc' := 90) dX2_readMove_87 rfl f_X2_12 rfl rfl ?_
      refine g_ldcS (pc' := 92) (j := 8) dX2_readMove_90 rfl rfl ?_
      refine g_callVi (pc' := 95) (As := [vs X 8]) (b := 31) (S := []) dX2_readMove_92 rfl m_X2_65 w_X8_takeWord (c_X8_takeWord_x X M7 iM7 8 (by decide) K W m i tsM7 (by omega) (by omega)) rfl ⟨_, _, _, rfl, rfl, rfl⟩ (by decide) (by decide) rfl (Nat.le_of_ble_eq_true rfl) (fun z10 M11 q9 => ?_)
      obtain ⟨iM11, fM110, eM11_31_1, pM11⟩ := q9
      have fM11 : Fr (fun c => c = 30 ∨ c = 31 ∨ c = 37 ∨ c = 39 ∨ c = 40 ∨ c = cq) M M11 := Fr.tr fM7 fM110 (fun c z => by first | omega | (dsimp only at z ⊢; omega))
      have q31_1_M11 : id (M11 31 1 = M 31 1) := eM11_31_1.trans q31_1_M7
      have q37_1_M11 : id (M11 37 1 = M 37 1) := (congrFun (fM110 37 (by first | decide | omega | (dsimp only; omega))) 1).trans q37_1_M7
      have wM11_30_2 : M11 30 2 = M7 30 2 := (congrFun (fM110 30 (by first | decide | omega | (dsimp only; omega))) 2)
      have wM11_37_4 : M11 37 4 = M7 37 4 := (congrFun (fM110 37 (by first | decide | omega | (dsimp only; omega))) 4)
      clear eM11_31_1
      have tsM11 : TS M11 K W m := TS.fr tsM7 fM110 (fun c h1 h2 => by first | omega | (dsimp only; omega))
      rw [cw_8] at pM11
      have k39M11 : M11 39 = M 39 := (fM110 39 (by first | decide | omega | (dsimp only; omega))).trans k39M7
      have k40M11 : M11 40 = M 40 := (fM110 40 (by first | decide | omega | (dsimp only; omega))).trans k40M7
      have c0M11 : M11 cq 0 = M7 cq 0 := congrFun (fM110 cq (by first | omega | (dsimp only; omega))) 0
      have c1M11 : M11 cq 1 = M7 cq 1 := congrFun (fM110 cq (by first | omega | (dsimp only; omega))) 1
      have c2M11 : M11 cq 2 = M7 cq 2 := congrFun (fM110 cq (by first | omega | (dsimp only; omega))) 2
      have c3M11 : M11 cq 3 = M7 cq 3 := congrFun (fM110 cq (by first | omega | (dsimp only; omega))) 3
      have c4M11 : M11 cq 4 = M7 cq 4 := congrFun (fM110 cq (by first | omega | (dsimp only; omega))) 4
      have c5M11 : M11 cq 5 = M7 cq 5 := congrFun (fM110 cq (by first | omega | (dsimp only; omega))) 5
      have c6M11 : M11 cq 6 = M7 cq 6 := congrFun (fM110 cq (by first | omega | (dsimp only; omega))) 6
      have c7M11 : M11 cq 7 = M7 cq 7 := congrFun (fM110 cq (by first | omega | (dsimp only; omega))) 7
      refine g_if_eq (pc' := 98) (tgt := 146) ⟨by omega, by omega⟩ dX2_readMove_95 rfl rfl (fun c12 => ?_) (fun c12 => ?_)
      · refine g_iconst (pc' := 147) dX2_readMove_146 rfl ?_
        refine g_zreturn dX2_readMove_147 (by omega) ?_
        exact ⟨iM11, fM11, q31_1_M11, q37_1_M11, by omega, i, lv, by omega, by omega, by omega, by omega, (by rw [sMv_n (by omega) (by omega) (by omega)]; exact STq.n), fun z => absurd z (by decide)⟩
      · have hw1 : K (i + 1) = 2 → 0 ≤ W (i + 1) := fun z => (hts.num (by omega) z).2
        refine g_aload_n (pc' := 99) 1 dX2_readMove_98 rfl rfl ?_
        refine g_iconst (pc' := 100) dX2_readMove_99 rfl ?_
        refine g_putI (pc' := 103) dX2_readMove_100 rfl p_X2_69 (clS hcq) rfl (by decide) (fun M13 hM13 => ?_)
        have iM13 : IC M13 := IC.wr iM11 hM13 (by unfold okw isT; first | decide | omega)
        have fM13 : Fr (fun c => c = 30 ∨ c = 31 ∨ c = 37 ∨ c = 39 ∨ c = 40 ∨ c = cq) M M13 := Fr.wr fM11 hM13 (by first | decide | omega | (dsimp only; omega))
        have q31_1_M13 : id (M13 31 1 = M 31 1) := (show M13 31 1 = M11 31 1 by rw [hM13]; exact mu_ne _ _ (by first | decide | omega)).trans q31_1_M11
        have q37_1_M13 : id (M13 37 1 = M 37 1) := (show M13 37 1 = M11 37 1 by rw [hM13]; exact mu_ne _ _ (by first | decide | omega)).trans q37_1_M11
        have wM13_30_2 : M13 30 2 = M11 30 2 := by rw [hM13]; exact mu_ne _ _ (by first | decide | omega)
        have wM13_31_7 : M13 31 7 = M11 31 7 := by rw [hM13]; exact mu_ne _ _ (by first | decide | omega)
        have wM13_37_4 : M13 37 4 = M11 37 4 := by rw [hM13]; exact mu_ne _ _ (by first | decide | omega)
        have tsM13 : TS M13 K W m := TS.fr tsM11 (P := fun q => q = cq) (fun q hq => by rw [hM13]; exact mu_cell _ _ hq) (fun q h1 h2 => by show ¬ q = cq; omega)
        have k39M13 : M13 39 = M 39 := (show M13 39 = M11 39 by rw [hM13]; exact mu_cell _ _ (by first | decide | omega)).trans k39M11
        have k40M13 : M13 40 = M 40 := (show M13 40 = M11 40 by rw [hM13]; exact mu_cell _ _ (by first | decide | omega)).trans k40M11
        have xkM13 : M13 cq 0 = 2 := by rw [hM13]; exact mu_at _ _ _ _
        have xoM13 : ∀ q : Nat, q ≠ 0 → M13 cq q = M11 cq q := fun q hq => by rw [hM13]; exact mu_ne _ _ (fun _ => hq)
        have c1M13 : M13 cq 1 = M11 cq 1 := xoM13 1 (by decide)
        have c2M13 : M13 cq 2 = M11 cq 2 := xoM13 2 (by decide)
        have c3M13 : M13 cq 3 = M11 cq 3 := xoM13 3 (by decide)
        have c4M13 : M13 cq 4 = M11 cq 4 := xoM13 4 (by decide)
        have c5M13 : M13 cq 5 = M11 cq 5 := xoM13 5 (by decide)
        have c6M13 : M13 cq 6 = M11 cq 6 := xoM13 6 (by decide)
        have c7M13 : M13 cq 7 = M11 cq 7 := xoM13 7 (by decide)
        refine g_aload_n (pc' := 104) 1 dX2_readMove_103 rfl rfl ?_
        refine g_aload_n (pc' := 105) 0 dX2_readMove_104 rfl rfl ?_
        refine g_getR (pc' := 108) dX2_readMove_105 rfl f_X2_12 rfl rfl ?_
        refine g_iconst (pc' := 109) dX2_readMove_108 rfl ?_
        refine g_iconst (pc' := 110) dX2_readMove_109 rfl ?_
        refine g_callVi (pc' := 113) (As := [vi 0, vi 3]) (b := 31) (S := [vr X cq]) dX2_readMove_110 rfl m_X2_87 w_X8_takeNumber (c_X8_takeNumber_x X M13 iM13 0 (by decide) 3 (by decide) K W m (i + 1) tsM13 (by omega) (by omega) (by omega)) rfl ⟨_, _, _, rfl, rfl, rfl⟩ (by decide) (by decide) rfl (Nat.le_of_ble_eq_true rfl) (fun z15 M16 q14 => ?_)
        obtain ⟨iM16, fM160, eM16_31_1, pM16⟩ := q14
        have fM16 : Fr (fun c => c = 30 ∨ c = 31 ∨ c = 37 ∨ c = 39 ∨ c = 40 ∨ c = cq) M M16 := Fr.tr fM13 fM160 (fun c z => by first | omega | (dsimp only at z ⊢; omega))
        have q31_1_M16 : id (M16 31 1 = M 31 1) := eM16_31_1.trans q31_1_M13
        have q37_1_M16 : id (M16 37 1 = M 37 1) := (congrFun (fM160 37 (by first | decide | omega | (dsimp only; omega))) 1).trans q37_1_M13
        have wM16_30_2 : M16 30 2 = M13 30 2 := (congrFun (fM160 30 (by first | decide | omega | (dsimp only; omega))) 2)
        have wM16_37_4 : M16 37 4 = M13 37 4 := (congrFun (fM160 37 (by first | decide | omega | (dsimp only; omega))) 4)
        clear eM16_31_1
        have tsM16 : TS M16 K W m := TS.fr tsM13 fM160 (fun c h1 h2 => by first | omega | (dsimp only; omega))
        have k39M16 : M16 39 = M 39 := (fM160 39 (by first | decide | omega | (dsimp only; omega))).trans k39M13
        have k40M16 : M16 40 = M 40 := (fM160 40 (by first | decide | omega | (dsimp only; omega))).trans k40M13
        have c0M16 : M16 cq 0 = M13 cq 0 := congrFun (fM160 cq (by first | omega | (dsimp only; omega))) 0
        have c1M16 : M16 cq 1 = M13 cq 1 := congrFun (fM160 cq (by first | omega | (dsimp only; omega))) 1
        have c2M16 : M16 cq 2 = M13 cq 2 := congrFun (fM160 cq (by first | omega | (dsimp only; omega))) 2
        have c3M16 : M16 cq 3 = M13 cq 3 := congrFun (fM160 cq (by first | omega | (dsimp only; omega))) 3
        have c4M16 : M16 cq 4 = M13 cq 4 := congrFun (fM160 cq (by first | omega | (dsimp only; omega))) 4
        have c5M16 : M16 cq 5 = M13 cq 5 := congrFun (fM160 cq (by first | omega | (dsimp only; omega))) 5
        have c6M16 : M16 cq 6 = M13 cq 6 := congrFun (fM160 cq (by first | omega | (dsimp only; omega))) 6
        have c7M16 : M16 cq 7 = M13 cq 7 := congrFun (fM160 cq (by first | omega | (dsimp only; omega))) 7
        refine g_putI (pc' := 116) dX2_readMove_113 rfl p_X2_91 (clS hcq) rfl ⟨by omega, by omega⟩ (fun M17 hM17 => ?_)
        have iM17 : IC M17 := IC.wr iM16 hM17 (by unfold okw isT; first | decide | omega)
        have fM17 : Fr (fun c => c = 30 ∨ c = 31 ∨ c = 37 ∨ c = 39 ∨ c = 40 ∨ c = cq) M M17 := Fr.wr fM16 hM17 (by first | decide | omega | (dsimp only; omega))
        have q31_1_M17 : id (M17 31 1 = M 31 1) := (show M17 31 1 = M16 31 1 by rw [hM17]; exact mu_ne _ _ (by first | decide | omega)).trans q31_1_M16
        have q37_1_M17 : id (M17 37 1 = M 37 1) := (show M17 37 1 = M16 37 1 by rw [hM17]; exact mu_ne _ _ (by first | decide | omega)).trans q37_1_M16
        have wM17_30_2 : M17 30 2 = M16 30 2 := by rw [hM17]; exact mu_ne _ _ (by first | decide | omega)
        have wM17_31_7 : M17 31 7 = M16 31 7 := by rw [hM17]; exact mu_ne _ _ (by first | decide | omega)
        have wM17_37_4 : M17 37 4 = M16 37 4 := by rw [hM17]; exact mu_ne _ _ (by first | decide | omega)
        have tsM17 : TS M17 K W m := TS.fr tsM16 (P := fun q => q = cq) (fun q hq => by rw [hM17]; exact mu_cell _ _ hq) (fun q h1 h2 => by show ¬ q = cq; omega)
        have k39M17 : M17 39 = M 39 := (show M17 39 = M16 39 by rw [hM17]; exact mu_cell _ _ (by first | decide | omega)).trans k39M16
        have k40M17 : M17 40 = M 40 := (show M17 40 = M16 40 by rw [hM17]; exact mu_cell _ _ (by first | decide | omega)).trans k40M16
        have xkM17 : M17 cq 1 = z15 := by rw [hM17]; exact mu_at _ _ _ _
        have xoM17 : ∀ q : Nat, q ≠ 1 → M17 cq q = M16 cq q := fun q hq => by rw [hM17]; exact mu_ne _ _ (fun _ => hq)
        have c0M17 : M17 cq 0 = M16 cq 0 := xoM17 0 (by decide)
        have c2M17 : M17 cq 2 = M16 cq 2 := xoM17 2 (by decide)
        have c3M17 : M17 cq 3 = M16 cq 3 := xoM17 3 (by decide)
        have c4M17 : M17 cq 4 = M16 cq 4 := xoM17 4 (by decide)
        have c5M17 : M17 cq 5 = M16 cq 5 := xoM17 5 (by decide)
        have c6M17 : M17 cq 6 = M16 cq 6 := xoM17 6 (by decide)
        have c7M17 : M17 cq 7 = M16 cq 7 := xoM17 7 (by decide)
        refine g_aload_n (pc' := 117) 1 dX2_readMove_116 rfl rfl ?_
        refine g_getI (pc' := 120) dX2_readMove_117 rfl f_X2_91 (clS hcq) rfl (fun v18 ev18 rv18 => ?_)
        refine g_iconst (pc' := 121) dX2_readMove_120 rfl ?_
        refine g_ic_eq (pc' := 124) (tgt := 144) rv18 (by decide) dX2_readMove_121 rfl rfl (fun c19 => ?_) (fun c19 => ?_)
        · refine g_iconst (pc' := 145) dX2_readMove_144 rfl ?_
          refine g_zreturn dX2_readMove_145 (by omega) ?_
          exact ⟨iM17, fM17, q31_1_M17, q37_1_M17, by omega, i + 1, lv, by omega, by omega, by omega, by omega, (by rw [sMv_f (by omega), sN_n (by omega), sE_0 _ _ _ _ rfl, sTo_0 _ _ _ rfl]; exact STq.n), fun z => absurd z (by decide)⟩
        · refine g_aload_n (pc' := 125) 0 dX2_readMove_124 rfl rfl ?_
          refine g_aload_n (pc' := 126) 1 dX2_readMove_125 rfl rfl ?_
          refine g_callVi (pc' := 129) (As := [vr X cq]) (b := 30) (S := []) dX2_readMove_126 rfl m_X2_74 w_X2_readAmount (c_X2_readAmount_y X M17 iM17 cq hcq K W m (i + 1 + 1) tsM17 (by omega) (by omega) lv (by omega) (by omega)) rfl ⟨_, _, _, rfl, rfl, rfl⟩ (by decide) (by decide) rfl (Nat.le_of_ble_eq_true rfl) (fun z21 M22 q20 => ?_)
          obtain ⟨iM22, fM220, eM22_31_1, eM22_37_1, pM22⟩ := q20
          have fM22 : Fr (fun c => c = 30 ∨ c = 31 ∨ c = 37 ∨ c = 39 ∨ c = 40 ∨ c = cq) M M22 := Fr.tr fM17 fM220 (fun _ z => z)
          have q31_1_M22 : id (M22 31 1 = M 31 1) := eM22_31_1.trans q31_1_M17
          have q37_1_M22 : id (M22 37 1 = M 37 1) := eM22_37_1.trans q37_1_M17
          clear eM22_31_1 eM22_37_1
          have tsM22 : TS M22 K W m := TS.fr tsM17 fM220 (fun c h1 h2 => by first | omega | (dsimp only; omega))
          obtain ⟨pzM22, jM22, lvM22, paM22, plM22, piM22, pmM22, gM22, dM22⟩ := pM22
          have c0M22 : M22 cq 0 = M17 cq 0 := dM22.1 0 (by decide) (by decide) 
          have c1M22 : M22 cq 1 = M17 cq 1 := dM22.1 1 (by decide) (by decide) 
          have c2M22 : M22 cq 2 = M17 cq 2 := dM22.1 2 (by decide) (by decide) 
          have c3M22 : M22 cq 3 = M17 cq 3 := dM22.1 3 (by decide) (by decide) 
          have c4M22 : M22 cq 4 = M17 cq 4 := dM22.1 4 (by decide) (by decide) 
          have c7M22 : M22 cq 7 = M17 cq 7 := dM22.1 7 (by decide) (by decide) 
          refine g_if_eq (pc' := 132) (tgt := 144) ⟨by omega, by omega⟩ dX2_readMove_129 rfl rfl (fun c23 => ?_) (fun c23 => ?_)
          · refine g_iconst (pc' := 145) dX2_readMove_144 rfl ?_
            refine g_zreturn dX2_readMove_145 (by omega) ?_
            exact ⟨iM22, fM22, q31_1_M22, q37_1_M22, by omega, jM22, lvM22, by omega, by omega, by omega, by omega, (by rw [sMv_f (by omega), sN_1 (by omega), sE_1]; exact ((gM22.st (sTo_0 K W) (by omega)).r (by omega))), fun z => absurd z (by decide)⟩
          · refine g_aload_n (pc' := 133) 0 dX2_readMove_132 rfl rfl ?_
            refine g_aload_n (pc' := 134) 1 dX2_readMove_133 rfl rfl ?_
            refine g_callVi (pc' := 137) (As := [vr X cq]) (b := 30) (S := []) dX2_readMove_134 rfl m_X2_80 w_X2_readTo (c_X2_readTo_y X M22 iM22 cq hcq K W m jM22 tsM22 (by omega) (by omega) lvM22 (by omega) (by omega)) rfl ⟨_, _, _, rfl, rfl, rfl⟩ (by decide) (by decide) rfl (Nat.le_of_ble_eq_true rfl) (fun z25 M26 q24 => ?_)
            obtain ⟨iM26, fM260, eM26_31_1, eM26_37_1, pM26⟩ := q24
            have fM26 : Fr (fun c => c = 30 ∨ c = 31 ∨ c = 37 ∨ c = 39 ∨ c = 40 ∨ c = cq) M M26 := Fr.tr fM22 fM260 (fun c z => by first | omega | (dsimp only at z ⊢; omega))
            have q31_1_M26 : id (M26 31 1 = M 31 1) := eM26_31_1.trans q31_1_M22
            have q37_1_M26 : id (M26 37 1 = M 37 1) := eM26_37_1.trans q37_1_M22
            have wM26_30_2 : M26 30 2 = M22 30 2 := (congrFun (fM260 30 (by first | decide | omega | (dsimp only; omega))) 2)
            have wM26_37_4 : M26 37 4 = M22 37 4 := (congrFun (fM260 37 (by first | decide | omega | (dsimp only; omega))) 4)
            clear eM26_31_1 eM26_37_1
            have tsM26 : TS M26 K W m := TS.fr tsM22 fM260 (fun c h1 h2 => by first | omega | (dsimp only; omega))
            have k39M26 : M26 39 = M22 39 := (fM260 39 (by first | decide | omega | (dsimp only; omega)))
            have k40M26 : M26 40 = M22 40 := (fM260 40 (by first | decide | omega | (dsimp only; omega)))
            obtain ⟨pzM26, jM26, lvM26, paM26, plM26, piM26, pmM26, gM26, dM26⟩ := pM26
            have c0M26 : M26 cq 0 = M22 cq 0 := dM26.1 0 (by decide) 
            have c1M26 : M26 cq 1 = M22 cq 1 := dM26.1 1 (by decide) 
            have c2M26 : M26 cq 2 = M22 cq 2 := dM26.1 2 (by decide) 
            have c4M26 : M26 cq 4 = M22 cq 4 := dM26.1 4 (by decide) 
            have c5M26 : M26 cq 5 = M22 cq 5 := dM26.1 5 (by decide) 
            have c6M26 : M26 cq 6 = M22 cq 6 := dM26.1 6 (by decide) 
            have c7M26 : M26 cq 7 = M22 cq 7 := dM26.1 7 (by decide) 
            refine g_if_eq (pc' := 140) (tgt := 144) ⟨by omega, by omega⟩ dX2_readMove_137 rfl rfl (fun c27 => ?_) (fun c27 => ?_)
            · refine g_iconst (pc' := 145) dX2_readMove_144 rfl ?_
              refine g_zreturn dX2_readMove_145 (by omega) ?_
              exact ⟨iM26, fM26, q31_1_M26, q37_1_M26, by omega, jM26, lvM26, by omega, by omega, by omega, by omega, (by rw [sMv_f (by omega), sN_1 (by omega), sE_1, gM22.s1 (by omega)]; exact (gM26.r (by omega))), fun z => absurd z (by decide)⟩
            · refine g_iconst (pc' := 141) dX2_readMove_140 rfl ?_
              refine g_goto (tgt := 145) dX2_readMove_141 rfl ?_
              refine g_zreturn dX2_readMove_145 (by omega) ?_
              exact ⟨iM26, fM26, q31_1_M26, q37_1_M26, by omega, jM26, lvM26, by omega, by omega, by omega, by omega, (by rw [sMv_f (by omega), sN_1 (by omega), sE_1, gM22.s1 (by omega)]; exact (gM26.r (by omega))), fun _ => by
                  have eM22 := dM22.2
                  have eM26 := dM26.2 (by omega)
                  have ea := (eM22.2.2 (by omega)).2.1
                  exact MVD.fi (show K i = 1 ∧ W i = 206220 by omega) (gM22.s1 (by omega)) (by omega) (by omega) (by omega) (by omega) (((CDS.eq (M := M) (M1 := M17) (by omega) k39M17 k40M17).tr (eM22.2.2 (by omega)).1).tr (CDS.eq (by omega) k39M26 k40M26)) (by omega) (by omega) (by
                    have mm := (eM22.2.2 (by omega)).2.2
                    rw [k39M26, k40M26, show M26 37 4 = M22 37 4 by omega, show M 37 4 = M17 37 4 by omega, show lvM26 = lvM22 by omega]
                    exact mm)⟩
    · refine g_aload_n (pc' := 60) 1 dX2_readMove_59 rfl rfl ?_
      refine g_iconst (pc' := 61) dX2_readMove_60 rfl ?_
      refine g_putI (pc' := 64) dX2_readMove_61 rfl p_X2_69 (clS hcq) rfl (by decide) (fun M28 hM28 => ?_)
      have iM28 : IC M28 := IC.wr iM7 hM28 (by unfold okw isT; first | decide | omega)
      have fM28 : Fr (fun c => c = 30 ∨ c = 31 ∨ c = 37 ∨ c = 39 ∨ c = 40 ∨ c = cq) M M28 := Fr.wr fM7 hM28 (by first | decide | omega | (dsimp only; omega))
      have q31_1_M28 : id (M28 31 1 = M 31 1) := (show M28 31 1 = M7 31 1 by rw [hM28]; exact mu_ne _ _ (by first | decide | omega)).trans q31_1_M7
      have q37_1_M28 : id (M28 37 1 = M 37 1) := (show M28 37 1 = M7 37 1 by rw [hM28]; exact mu_ne _ _ (by first | decide | omega)).trans q37_1_M7
      have wM28_30_2 : M28 30 2 = M7 30 2 := by rw [hM28]; exact mu_ne _ _ (by first | decide | omega)
      have wM28_31_7 : M28 31 7 = M7 31 7 := by rw [hM28]; exact mu_ne _ _ (by first | decide | omega)
      have wM28_37_4 : M28 37 4 = M7 37 4 := by rw [hM28]; exact mu_ne _ _ (by first | decide | omega)
      have tsM28 : TS M28 K W m := TS.fr tsM7 (P := fun q => q = cq) (fun q hq => by rw [hM28]; exact mu_cell _ _ hq) (fun q h1 h2 => by show ¬ q = cq; omega)
      have k39M28 : M28 39 = M 39 := (show M28 39 = M7 39 by rw [hM28]; exact mu_cell _ _ (by first | decide | omega)).trans k39M7
      have k40M28 : M28 40 = M 40 := (show M28 40 = M7 40 by rw [hM28]; exact mu_cell _ _ (by first | decide | omega)).trans k40M7
      have xkM28 : M28 cq 0 = 1 := by rw [hM28]; exact mu_at _ _ _ _
      have xoM28 : ∀ q : Nat, q ≠ 0 → M28 cq q = M7 cq q := fun q hq => by rw [hM28]; exact mu_ne _ _ (fun _ => hq)
      have c1M28 : M28 cq 1 = M7 cq 1 := xoM28 1 (by decide)
      have c2M28 : M28 cq 2 = M7 cq 2 := xoM28 2 (by decide)
      have c3M28 : M28 cq 3 = M7 cq 3 := xoM28 3 (by decide)
      have c4M28 : M28 cq 4 = M7 cq 4 := xoM28 4 (by decide)
      have c5M28 : M28 cq 5 = M7 cq 5 := xoM28 5 (by decide)
      have c6M28 : M28 cq 6 = M7 cq 6 := xoM28 6 (by decide)
      have c7M28 : M28 cq 7 = M7 cq 7 := xoM28 7 (by decide)
      refine g_aload_n (pc' := 65) 0 dX2_readMove_64 rfl rfl ?_
      refine g_aload_n (pc' := 66) 1 dX2_readMove_65 rfl rfl ?_
      refine g_callVi (pc' := 69) (As := [vr X cq]) (b := 30) (S := []) dX2_readMove_66 rfl m_X2_74 w_X2_readAmount (c_X2_readAmount_y X M28 iM28 cq hcq K W m (i + 1) tsM28 (by omega) (by omega) lv (by omega) (by omega)) rfl ⟨_, _, _, rfl, rfl, rfl⟩ (by decide) (by decide) rfl (Nat.le_of_ble_eq_true rfl) (fun z30 M31 q29 => ?_)
      obtain ⟨iM31, fM310, eM31_31_1, eM31_37_1, pM31⟩ := q29
      have fM31 : Fr (fun c => c = 30 ∨ c = 31 ∨ c = 37 ∨ c = 39 ∨ c = 40 ∨ c = cq) M M31 := Fr.tr fM28 fM310 (fun _ z => z)
      have q31_1_M31 : id (M31 31 1 = M 31 1) := eM31_31_1.trans q31_1_M28
      have q37_1_M31 : id (M31 37 1 = M 37 1) := eM31_37_1.trans q37_1_M28
      clear eM31_31_1 eM31_37_1
      have tsM31 : TS M31 K W m := TS.fr tsM28 fM310 (fun c h1 h2 => by first | omega | (dsimp only; omega))
      obtain ⟨pzM31, jM31, lvM31, paM31, plM31, piM31, pmM31, gM31, dM31⟩ := pM31
      have c0M31 : M31 cq 0 = M28 cq 0 := dM31.1 0 (by decide) (by decide) 
      have c1M31 : M31 cq 1 = M28 cq 1 := dM31.1 1 (by decide) (by decide) 
      have c2M31 : M31 cq 2 = M28 cq 2 := dM31.1 2 (by decide) (by decide) 
      have c3M31 : M31 cq 3 = M28 cq 3 := dM31.1 3 (by decide) (by decide) 
      have c4M31 : M31 cq 4 = M28 cq 4 := dM31.1 4 (by decide) (by decide) 
      have c7M31 : M31 cq 7 = M28 cq 7 := dM31.1 7 (by decide) (by decide) 
      refine g_if_eq (pc' := 72) (tgt := 84) ⟨by omega, by omega⟩ dX2_readMove_69 rfl rfl (fun c32 => ?_) (fun c32 => ?_)
      · refine g_iconst (pc' := 85) dX2_readMove_84 rfl ?_
        refine g_zreturn dX2_readMove_85 (by omega) ?_
        exact ⟨iM31, fM31, q31_1_M31, q37_1_M31, by omega, jM31, lvM31, by omega, by omega, by omega, by omega, (by rw [sMv_l (by omega)]; exact ((gM31.st (sFr_0 K W) (by omega)).r (by omega))), fun z => absurd z (by decide)⟩
      · refine g_aload_n (pc' := 73) 0 dX2_readMove_72 rfl rfl ?_
        refine g_aload_n (pc' := 74) 1 dX2_readMove_73 rfl rfl ?_
        refine g_callVi (pc' := 77) (As := [vr X cq]) (b := 30) (S := []) dX2_readMove_74 rfl m_X2_77 w_X2_readFrom (c_X2_readFrom_y X M31 iM31 cq hcq K W m jM31 tsM31 (by omega) (by omega) lvM31 (by omega) (by omega)) rfl ⟨_, _, _, rfl, rfl, rfl⟩ (by decide) (by decide) rfl (Nat.le_of_ble_eq_true rfl) (fun z34 M35 q33 => ?_)
        obtain ⟨iM35, fM350, eM35_31_1, eM35_37_1, pM35⟩ := q33
        have fM35 : Fr (fun c => c = 30 ∨ c = 31 ∨ c = 37 ∨ c = 39 ∨ c = 40 ∨ c = cq) M M35 := Fr.tr fM31 fM350 (fun c z => by first | omega | (dsimp only at z ⊢; omega))
        have q31_1_M35 : id (M35 31 1 = M 31 1) := eM35_31_1.trans q31_1_M31
        have q37_1_M35 : id (M35 37 1 = M 37 1) := eM35_37_1.trans q37_1_M31
        have wM35_30_2 : M35 30 2 = M31 30 2 := (congrFun (fM350 30 (by first | decide | omega | (dsimp only; omega))) 2)
        have wM35_37_4 : M35 37 4 = M31 37 4 := (congrFun (fM350 37 (by first | decide | omega | (dsimp only; omega))) 4)
        clear eM35_31_1 eM35_37_1
        have tsM35 : TS M35 K W m := TS.fr tsM31 fM350 (fun c h1 h2 => by first | omega | (dsimp only; omega))
        have k39M35 : M35 39 = M31 39 := (fM350 39 (by first | decide | omega | (dsimp only; omega)))
        have k40M35 : M35 40 = M31 40 := (fM350 40 (by first | decide | omega | (dsimp only; omega)))
        obtain ⟨pzM35, jM35, lvM35, paM35, plM35, piM35, pmM35, gM35, dM35⟩ := pM35
        have c0M35 : M35 cq 0 = M31 cq 0 := dM35.1 0 (by decide) 
        have c1M35 : M35 cq 1 = M31 cq 1 := dM35.1 1 (by decide) 
        have c3M35 : M35 cq 3 = M31 cq 3 := dM35.1 3 (by decide) 
        have c4M35 : M35 cq 4 = M31 cq 4 := dM35.1 4 (by decide) 
        have c5M35 : M35 cq 5 = M31 cq 5 := dM35.1 5 (by decide) 
        have c6M35 : M35 cq 6 = M31 cq 6 := dM35.1 6 (by decide) 
        have c7M35 : M35 cq 7 = M31 cq 7 := dM35.1 7 (by decide) 
        refine g_if_eq (pc' := 80) (tgt := 84) ⟨by omega, by omega⟩ dX2_readMove_77 rfl rfl (fun c36 => ?_) (fun c36 => ?_)
        · refine g_iconst (pc' := 85) dX2_readMove_84 rfl ?_
          refine g_zreturn dX2_readMove_85 (by omega) ?_
          exact ⟨iM35, fM35, q31_1_M35, q37_1_M35, by omega, jM35, lvM35, by omega, by omega, by omega, by omega, (by rw [sMv_l (by omega), gM31.s1 (by omega)]; exact (gM35.r (by omega))), fun z => absurd z (by decide)⟩
        · refine g_iconst (pc' := 81) dX2_readMove_80 rfl ?_
          refine g_goto (tgt := 85) dX2_readMove_81 rfl ?_
          refine g_zreturn dX2_readMove_85 (by omega) ?_
          exact ⟨iM35, fM35, q31_1_M35, q37_1_M35, by omega, jM35, lvM35, by omega, by omega, by omega, by omega, (by rw [sMv_l (by omega), gM31.s1 (by omega)]; exact (gM35.r (by omega))), fun _ => by
              have eM31 := dM31.2
              have eM35 := dM35.2 (by omega)
              have ea := (eM31.2.2 (by omega)).2.1
              exact MVD.lk (show K i = 1 ∧ W i = 402539 by omega) (gM31.s1 (by omega)) (by omega) (by omega) (by omega) (((CDS.eq (M := M) (M1 := M28) (by omega) k39M28 k40M28).tr (eM31.2.2 (by omega)).1).tr (CDS.eq (by omega) k39M35 k40M35)) (by omega) (by omega) (by
                have mm := (eM31.2.2 (by omega)).2.2
                rw [k39M35, k40M35, show M35 37 4 = M31 37 4 by omega, show M 37 4 = M28 37 4 by omega, show lvM35 = lvM31 by omega]
                exact mm)⟩
  · refine g_aload_n (pc' := 13) 1 dX2_readMove_12 rfl rfl ?_
    refine g_iconst (pc' := 14) dX2_readMove_13 rfl ?_
    refine g_putI (pc' := 17) dX2_readMove_14 rfl p_X2_69 (clS hcq) rfl (by decide) (fun M37 hM37 => ?_)
    have iM37 : IC M37 := IC.wr iM3 hM37 (by unfold okw isT; first | decide | omega)
    have fM37 : Fr (fun c => c = 30 ∨ c = 31 ∨ c = 37 ∨ c = 39 ∨ c = 40 ∨ c = cq) M M37 := Fr.wr fM3 hM37 (by first | decide | omega | (dsimp only; omega))
    have q31_1_M37 : id (M37 31 1 = M 31 1) := (show M37 31 1 = M3 31 1 by rw [hM37]; exact mu_ne _ _ (by first | decide | omega)).trans q31_1_M3
    have q37_1_M37 : id (M37 37 1 = M 37 1) := (show M37 37 1 = M3 37 1 by rw [hM37]; exact mu_ne _ _ (by first | decide | omega)).trans q37_1_M3
    have wM37_30_2 : M37 30 2 = M3 30 2 := by rw [hM37]; exact mu_ne _ _ (by first | decide | omega)
    have wM37_31_7 : M37 31 7 = M3 31 7 := by rw [hM37]; exact mu_ne _ _ (by first | decide | omega)
    have wM37_37_4 : M37 37 4 = M3 37 4 := by rw [hM37]; exact mu_ne _ _ (by first | decide | omega)
    have tsM37 : TS M37 K W m := TS.fr tsM3 (P := fun q => q = cq) (fun q hq => by rw [hM37]; exact mu_cell _ _ hq) (fun q h1 h2 => by show ¬ q = cq; omega)
    have k39M37 : M37 39 = M 39 := (show M37 39 = M3 39 by rw [hM37]; exact mu_cell _ _ (by first | decide | omega)).trans k39M3
    have k40M37 : M37 40 = M 40 := (show M37 40 = M3 40 by rw [hM37]; exact mu_cell _ _ (by first | decide | omega)).trans k40M3
    have xkM37 : M37 cq 0 = 0 := by rw [hM37]; exact mu_at _ _ _ _
    have xoM37 : ∀ q : Nat, q ≠ 0 → M37 cq q = M3 cq q := fun q hq => by rw [hM37]; exact mu_ne _ _ (fun _ => hq)
    have c1M37 : M37 cq 1 = M3 cq 1 := xoM37 1 (by decide)
    have c2M37 : M37 cq 2 = M3 cq 2 := xoM37 2 (by decide)
    have c3M37 : M37 cq 3 = M3 cq 3 := xoM37 3 (by decide)
    have c4M37 : M37 cq 4 = M3 cq 4 := xoM37 4 (by decide)
    have c5M37 : M37 cq 5 = M3 cq 5 := xoM37 5 (by decide)
    have c6M37 : M37 cq 6 = M3 cq 6 := xoM37 6 (by decide)
    have c7M37 : M37 cq 7 = M3 cq 7 := xoM37 7 (by decide)
    refine g_aload_n (pc' := 18) 0 dX2_readMove_17 rfl rfl ?_
    refine g_aload_n (pc' := 19) 1 dX2_readMove_18 rfl rfl ?_
    refine g_callVi (pc' := 22) (As := [vr X cq]) (b := 30) (S := []) dX2_readMove_19 rfl m_X2_74 w_X2_readAmount (c_X2_readAmount_y X M37 iM37 cq hcq K W m (i + 1) tsM37 (by omega) (by omega) lv (by omega) (by omega)) rfl ⟨_, _, _, rfl, rfl, rfl⟩ (by decide) (by decide) rfl (Nat.le_of_ble_eq_true rfl) (fun z39 M40 q38 => ?_)
    obtain ⟨iM40, fM400, eM40_31_1, eM40_37_1, pM40⟩ := q38
    have fM40 : Fr (fun c => c = 30 ∨ c = 31 ∨ c = 37 ∨ c = 39 ∨ c = 40 ∨ c = cq) M M40 := Fr.tr fM37 fM400 (fun _ z => z)
    have q31_1_M40 : id (M40 31 1 = M 31 1) := eM40_31_1.trans q31_1_M37
    have q37_1_M40 : id (M40 37 1 = M 37 1) := eM40_37_1.trans q37_1_M37
    clear eM40_31_1 eM40_37_1
    have tsM40 : TS M40 K W m := TS.fr tsM37 fM400 (fun c h1 h2 => by first | omega | (dsimp only; omega))
    obtain ⟨pzM40, jM40, lvM40, paM40, plM40, piM40, pmM40, gM40, dM40⟩ := pM40
    have c0M40 : M40 cq 0 = M37 cq 0 := dM40.1 0 (by decide) (by decide) 
    have c1M40 : M40 cq 1 = M37 cq 1 := dM40.1 1 (by decide) (by decide) 
    have c2M40 : M40 cq 2 = M37 cq 2 := dM40.1 2 (by decide) (by decide) 
    have c3M40 : M40 cq 3 = M37 cq 3 := dM40.1 3 (by decide) (by decide) 
    have c4M40 : M40 cq 4 = M37 cq 4 := dM40.1 4 (by decide) (by decide) 
    have c7M40 : M40 cq 7 = M37 cq 7 := dM40.1 7 (by decide) (by decide) 
    refine g_if_eq (pc' := 25) (tgt := 45) ⟨by omega, by omega⟩ dX2_readMove_22 rfl rfl (fun c41 => ?_) (fun c41 => ?_)
    · refine g_iconst (pc' := 46) dX2_readMove_45 rfl ?_
      refine g_zreturn dX2_readMove_46 (by omega) ?_
      exact ⟨iM40, fM40, q31_1_M40, q37_1_M40, by omega, jM40, lvM40, by omega, by omega, by omega, by omega, (by rw [sMv_s (by omega)]; exact (((gM40.st (sFr_0 K W) (by omega)).st (sTo_0 K W) (by omega)).r (by omega))), fun z => absurd z (by decide)⟩
    · refine g_aload_n (pc' := 26) 0 dX2_readMove_25 rfl rfl ?_
      refine g_aload_n (pc' := 27) 1 dX2_readMove_26 rfl rfl ?_
      refine g_callVi (pc' := 30) (As := [vr X cq]) (b := 30) (S := []) dX2_readMove_27 rfl m_X2_77 w_X2_readFrom (c_X2_readFrom_y X M40 iM40 cq hcq K W m jM40 tsM40 (by omega) (by omega) lvM40 (by omega) (by omega)) rfl ⟨_, _, _, rfl, rfl, rfl⟩ (by decide) (by decide) rfl (Nat.le_of_ble_eq_true rfl) (fun z43 M44 q42 => ?_)
      obtain ⟨iM44, fM440, eM44_31_1, eM44_37_1, pM44⟩ := q42
      have fM44 : Fr (fun c => c = 30 ∨ c = 31 ∨ c = 37 ∨ c = 39 ∨ c = 40 ∨ c = cq) M M44 := Fr.tr fM40 fM440 (fun c z => by first | omega | (dsimp only at z ⊢; omega))
      have q31_1_M44 : id (M44 31 1 = M 31 1) := eM44_31_1.trans q31_1_M40
      have q37_1_M44 : id (M44 37 1 = M 37 1) := eM44_37_1.trans q37_1_M40
      have wM44_30_2 : M44 30 2 = M40 30 2 := (congrFun (fM440 30 (by first | decide | omega | (dsimp only; omega))) 2)
      have wM44_37_4 : M44 37 4 = M40 37 4 := (congrFun (fM440 37 (by first | decide | omega | (dsimp only; omega))) 4)
      clear eM44_31_1 eM44_37_1
      have tsM44 : TS M44 K W m := TS.fr tsM40 fM440 (fun c h1 h2 => by first | omega | (dsimp only; omega))
      have k39M44 : M44 39 = M40 39 := (fM440 39 (by first | decide | omega | (dsimp only; omega)))
      have k40M44 : M44 40 = M40 40 := (fM440 40 (by first | decide | omega | (dsimp only; omega)))
      obtain ⟨pzM44, jM44, lvM44, paM44, plM44, piM44, pmM44, gM44, dM44⟩ := pM44
      have c0M44 : M44 cq 0 = M40 cq 0 := dM44.1 0 (by decide) 
      have c1M44 : M44 cq 1 = M40 cq 1 := dM44.1 1 (by decide) 
      have c3M44 : M44 cq 3 = M40 cq 3 := dM44.1 3 (by decide) 
      have c4M44 : M44 cq 4 = M40 cq 4 := dM44.1 4 (by decide) 
      have c5M44 : M44 cq 5 = M40 cq 5 := dM44.1 5 (by decide) 
      have c6M44 : M44 cq 6 = M40 cq 6 := dM44.1 6 (by decide) 
      have c7M44 : M44 cq 7 = M40 cq 7 := dM44.1 7 (by decide) 
      refine g_if_eq (pc' := 33) (tgt := 45) ⟨by omega, by omega⟩ dX2_readMove_30 rfl rfl (fun c45 => ?_) (fun c45 => ?_)
      · refine g_iconst (pc' := 46) dX2_readMove_45 rfl ?_
        refine g_zreturn dX2_readMove_46 (by omega) ?_
        exact ⟨iM44, fM44, q31_1_M44, q37_1_M44, by omega, jM44, lvM44, by omega, by omega, by omega, by omega, (by rw [sMv_s (by omega), gM40.s1 (by omega)]; exact ((gM44.st (sTo_0 K W) (by omega)).r (by omega))), fun z => absurd z (by decide)⟩
      · refine g_aload_n (pc' := 34) 0 dX2_readMove_33 rfl rfl ?_
        refine g_aload_n (pc' := 35) 1 dX2_readMove_34 rfl rfl ?_
        refine g_callVi (pc' := 38) (As := [vr X cq]) (b := 30) (S := []) dX2_readMove_35 rfl m_X2_80 w_X2_readTo (c_X2_readTo_y X M44 iM44 cq hcq K W m jM44 tsM44 (by omega) (by omega) lvM44 (by omega) (by omega)) rfl ⟨_, _, _, rfl, rfl, rfl⟩ (by decide) (by decide) rfl (Nat.le_of_ble_eq_true rfl) (fun z47 M48 q46 => ?_)
        obtain ⟨iM48, fM480, eM48_31_1, eM48_37_1, pM48⟩ := q46
        have fM48 : Fr (fun c => c = 30 ∨ c = 31 ∨ c = 37 ∨ c = 39 ∨ c = 40 ∨ c = cq) M M48 := Fr.tr fM44 fM480 (fun c z => by first | omega | (dsimp only at z ⊢; omega))
        have q31_1_M48 : id (M48 31 1 = M 31 1) := eM48_31_1.trans q31_1_M44
        have q37_1_M48 : id (M48 37 1 = M 37 1) := eM48_37_1.trans q37_1_M44
        have wM48_30_2 : M48 30 2 = M44 30 2 := (congrFun (fM480 30 (by first | decide | omega | (dsimp only; omega))) 2)
        have wM48_37_4 : M48 37 4 = M44 37 4 := (congrFun (fM480 37 (by first | decide | omega | (dsimp only; omega))) 4)
        clear eM48_31_1 eM48_37_1
        have tsM48 : TS M48 K W m := TS.fr tsM44 fM480 (fun c h1 h2 => by first | omega | (dsimp only; omega))
        have k39M48 : M48 39 = M40 39 := (fM480 39 (by first | decide | omega | (dsimp only; omega))).trans k39M44
        have k40M48 : M48 40 = M40 40 := (fM480 40 (by first | decide | omega | (dsimp only; omega))).trans k40M44
        obtain ⟨pzM48, jM48, lvM48, paM48, plM48, piM48, pmM48, gM48, dM48⟩ := pM48
        have c0M48 : M48 cq 0 = M44 cq 0 := dM48.1 0 (by decide) 
        have c1M48 : M48 cq 1 = M44 cq 1 := dM48.1 1 (by decide) 
        have c2M48 : M48 cq 2 = M44 cq 2 := dM48.1 2 (by decide) 
        have c4M48 : M48 cq 4 = M44 cq 4 := dM48.1 4 (by decide) 
        have c5M48 : M48 cq 5 = M44 cq 5 := dM48.1 5 (by decide) 
        have c6M48 : M48 cq 6 = M44 cq 6 := dM48.1 6 (by decide) 
        have c7M48 : M48 cq 7 = M44 cq 7 := dM48.1 7 (by decide) 
        refine g_if_eq (pc' := 41) (tgt := 45) ⟨by omega, by omega⟩ dX2_readMove_38 rfl rfl (fun c49 => ?_) (fun c49 => ?_)
        · refine g_iconst (pc' := 46) dX2_readMove_45 rfl ?_
          refine g_zreturn dX2_readMove_46 (by omega) ?_
          exact ⟨iM48, fM48, q31_1_M48, q37_1_M48, by omega, jM48, lvM48, by omega, by omega, by omega, by omega, (by rw [sMv_s (by omega), gM40.s1 (by omega), gM44.s1 (by omega)]; exact (gM48.r (by omega))), fun z => absurd z (by decide)⟩
        · refine g_iconst (pc' := 42) dX2_readMove_41 rfl ?_
          refine g_goto (tgt := 46) dX2_readMove_42 rfl ?_
          refine g_zreturn dX2_readMove_46 (by omega) ?_
          exact ⟨iM48, fM48, q31_1_M48, q37_1_M48, by omega, jM48, lvM48, by omega, by omega, by omega, by omega, (by rw [sMv_s (by omega), gM40.s1 (by omega), gM44.s1 (by omega)]; exact (gM48.r (by omega))), fun _ => by
              have eM40 := dM40.2
              have eM44 := dM44.2 (by omega)
              have eM48 := dM48.2 (by omega)
              have ea := (eM40.2.2 (by omega)).2.1
              exact MVD.sp (show K i = 1 ∧ W i = 20463086 by omega) (gM40.s1 (by omega)) (by omega) (by omega) (by have q := eM48.1; rw [eM44.2.1] at q; omega) (by omega) (((CDS.eq (M := M) (M1 := M37) (by omega) k39M37 k40M37).tr (eM40.2.2 (by omega)).1).tr (CDS.eq (by omega) k39M48 k40M48)) (by omega) (by omega) (by
                have mm := (eM40.2.2 (by omega)).2.2
                rw [k39M48, k40M48, show M48 37 4 = M40 37 4 by omega, show M 37 4 = M37 37 4 by omega, show lvM48 = lvM40 by omega]
                exact mm)⟩
set_option maxHeartbeats 4000000 in
set_option maxRecDepth 100000 in
theorem c_X2_readClause_y (X : Cx) (M : Mm) (hi : IC M) (cq : Nat) (hcq : 41 ≤ cq ∧ cq ≤ 52) (K W : Nat → Int) (m i : Nat) (hts : TS M K W m) (hat : M 31 7 = (i : Int)) (him : i ≤ m) (lv : Int) (hlv : M 30 2 = lv) (hsl : 0 ≤ M 37 4 ∧ M 37 4 ≤ (i : Int)) (hl0 : 0 ≤ lv) : Con X 42 yX2_readClause cX2_readClause 2 (some .boolean) [vr X 30, vr X cq] M (Qi (fun r M1 => IC M1 ∧ Fr (fun c => c = 30 ∨ c = 31 ∨ c = 37 ∨ c = 39 ∨ c = 40 ∨ c = cq) M M1 ∧ M1 31 1 = M 31 1 ∧ M1 37 1 = M 37 1 ∧ ((r = 0 ∨ r = 1) ∧ ∃ (j : Nat) (lv1 : Int), M1 31 7 = (j : Int) ∧ M1 30 2 = lv1 ∧ i ≤ j ∧ j ≤ m ∧ STq (sCl K W i lv) r j lv1 ∧ (r = 1 → CLC K W i lv M1 cq ∧ CDS M M1 ∧ (M 37 4 ≤ M1 37 4 ∧ M1 37 4 - M 37 4 ≤ (j : Int) - i) ∧ lv ≤ lv1)))) := by
  refine Con.ofG rfl (Nat.le_of_ble_eq_true rfl) ?_
  show G X 42 RX2 cX2_readClause 2 (some .boolean) (Qi (fun r M1 => IC M1 ∧ Fr (fun c => c = 30 ∨ c = 31 ∨ c = 37 ∨ c = 39 ∨ c = 40 ∨ c = cq) M M1 ∧ M1 31 1 = M 31 1 ∧ M1 37 1 = M 37 1 ∧ ((r = 0 ∨ r = 1) ∧ ∃ (j : Nat) (lv1 : Int), M1 31 7 = (j : Int) ∧ M1 30 2 = lv1 ∧ i ≤ j ∧ j ≤ m ∧ STq (sCl K W i lv) r j lv1 ∧ (r = 1 → CLC K W i lv M1 cq ∧ CDS M M1 ∧ (M 37 4 ≤ M1 37 4 ∧ M1 37 4 - M 37 4 ≤ (j : Int) - i) ∧ lv ≤ lv1)))) 0 [(0, vr X 30), (1, vr X cq)] [] M
  have hm4 := hts.m4
  refine g_aload_n (pc' := 1) 0 dX2_readClause_0 rfl rfl ?_
  refine g_aload_n (pc' := 2) 1 dX2_readClause_1 rfl rfl ?_
  refine g_callVi (pc' := 5) (As := [vr X cq]) (b := 30) (S := []) dX2_readClause_2 rfl m_X2_54 w_X2_readMove (c_X2_readMove_y X M hi cq hcq K W m i hts hat him lv hlv (by omega)) rfl ⟨_, _, _, rfl, rfl, rfl⟩ (by decide) (by decide) rfl (Nat.le_of_ble_eq_true rfl) (fun z2 M3 q1 => ?_)
  obtain ⟨iM3, fM30, eM3_31_1, eM3_37_1, pM3⟩ := q1
  have fM3 : Fr (fun c => c = 30 ∨ c = 31 ∨ c = 37 ∨ c = 39 ∨ c = 40 ∨ c = cq) M M3 := Fr.tr Fr.rf fM30 (fun _ z => z)
  have q31_1_M3 : id (M3 31 1 = M 31 1) := eM3_31_1
  have q37_1_M3 : id (M3 37 1 = M 37 1) := eM3_37_1
  clear eM3_31_1 eM3_37_1
  have tsM3 : TS M3 K W m := TS.fr hts fM30 (fun c h1 h2 => by first | omega | (dsimp only; omega))
  obtain ⟨pzM3, jM3, lvM3, paM3, plM3, piM3, pmM3, gM3, dM3⟩ := pM3
  have mvlM3 : z2 = 1 → (M 37 4 ≤ M3 37 4 ∧ M3 37 4 - M 37 4 ≤ (jM3 : Int) - i) ∧ (lv < lvM3 ∧ lvM3 ≤ 50) := fun z => ⟨(dM3 z).2.2.2.2.2.2.1, (dM3 z).2.2.2.2.2.2.2.1⟩
  refine g_if_eq (pc' := 8) (tgt := 28) ⟨by omega, by omega⟩ dX2_readClause_5 rfl rfl (fun c4 => ?_) (fun c4 => ?_)
  · refine g_iconst (pc' := 29) dX2_readClause_28 rfl ?_
    refine g_zreturn dX2_readClause_29 (by omega) ?_
    exact ⟨iM3, fM3, q31_1_M3, q37_1_M3, by omega, jM3, lvM3, by omega, by omega, by omega, by omega, (by unfold sCl; exact (((gM3.st (sTm_0 K W) (by omega)).st (sIf_0 K W) (by omega)).r (by omega))), fun z => absurd z (by decide)⟩
  · have mq := mvlM3 (by omega)
    refine g_aload_n (pc' := 9) 0 dX2_readClause_8 rfl rfl ?_
    refine g_aload_n (pc' := 10) 1 dX2_readClause_9 rfl rfl ?_
    refine g_callVi (pc' := 13) (As := [vr X cq]) (b := 30) (S := []) dX2_readClause_10 rfl m_X2_57 w_X2_readTimes (c_X2_readTimes_y X M3 iM3 cq hcq K W m jM3 tsM3 (by omega) (by omega) lvM3 (by omega) (by omega)) rfl ⟨_, _, _, rfl, rfl, rfl⟩ (by decide) (by decide) rfl (Nat.le_of_ble_eq_true rfl) (fun z6 M7 q5 => ?_)
    obtain ⟨iM7, fM70, eM7_31_1, eM7_37_1, pM7⟩ := q5
    have fM7 : Fr (fun c => c = 30 ∨ c = 31 ∨ c = 37 ∨ c = 39 ∨ c = 40 ∨ c = cq) M M7 := Fr.tr fM3 fM70 (fun c z => by first | omega | (dsimp only at z ⊢; omega))
    have q31_1_M7 : id (M7 31 1 = M 31 1) := eM7_31_1.trans q31_1_M3
    have q37_1_M7 : id (M7 37 1 = M 37 1) := eM7_37_1.trans q37_1_M3
    have wM7_30_2 : M7 30 2 = M3 30 2 := (congrFun (fM70 30 (by first | decide | omega | (dsimp only; omega))) 2)
    have wM7_37_4 : M7 37 4 = M3 37 4 := (congrFun (fM70 37 (by first | decide | omega | (dsimp only; omega))) 4)
    clear eM7_31_1 eM7_37_1
    have tsM7 : TS M7 K W m := TS.fr tsM3 fM70 (fun c h1 h2 => by first | omega | (dsimp only; omega))
    have k39M7 : M7 39 = M3 39 := (fM70 39 (by first | decide | omega | (dsimp only; omega)))
    have k40M7 : M7 40 = M3 40 := (fM70 40 (by first | decide | omega | (dsimp only; omega)))
    obtain ⟨pzM7, jM7, lvM7, paM7, plM7, piM7, pmM7, gM7, dM7⟩ := pM7
    have c0M7 : M7 cq 0 = M3 cq 0 := dM7.1 0 (by decide) 
    have c1M7 : M7 cq 1 = M3 cq 1 := dM7.1 1 (by decide) 
    have c2M7 : M7 cq 2 = M3 cq 2 := dM7.1 2 (by decide) 
    have c3M7 : M7 cq 3 = M3 cq 3 := dM7.1 3 (by decide) 
    have c5M7 : M7 cq 5 = M3 cq 5 := dM7.1 5 (by decide) 
    have c6M7 : M7 cq 6 = M3 cq 6 := dM7.1 6 (by decide) 
    have c7M7 : M7 cq 7 = M3 cq 7 := dM7.1 7 (by decide) 
    refine g_if_eq (pc' := 16) (tgt := 28) ⟨by omega, by omega⟩ dX2_readClause_13 rfl rfl (fun c8 => ?_) (fun c8 => ?_)
    · refine g_iconst (pc' := 29) dX2_readClause_28 rfl ?_
      refine g_zreturn dX2_readClause_29 (by omega) ?_
      exact ⟨iM7, fM7, q31_1_M7, q37_1_M7, by omega, jM7, lvM7, by omega, by omega, by omega, by omega, (by unfold sCl; rw [gM3.s1 (by omega)]; exact ((gM7.st (sIf_0 K W) (by omega)).r (by omega))), fun z => absurd z (by decide)⟩
    · have tq := (dM7.2 (by omega))
      refine g_aload_n (pc' := 17) 0 dX2_readClause_16 rfl rfl ?_
      refine g_aload_n (pc' := 18) 1 dX2_readClause_17 rfl rfl ?_
      refine g_callVi (pc' := 21) (As := [vr X cq]) (b := 30) (S := []) dX2_readClause_18 rfl m_X2_60 w_X2_readIf (c_X2_readIf_y X M7 iM7 cq hcq K W m jM7 tsM7 (by omega) (by omega) lvM7 (by omega) (by omega)) rfl ⟨_, _, _, rfl, rfl, rfl⟩ (by decide) (by decide) rfl (Nat.le_of_ble_eq_true rfl) (fun z10 M11 q9 => ?_)
      obtain ⟨iM11, fM110, eM11_31_1, eM11_37_1, pM11⟩ := q9
      have fM11 : Fr (fun c => c = 30 ∨ c = 31 ∨ c = 37 ∨ c = 39 ∨ c = 40 ∨ c = cq) M M11 := Fr.tr fM7 fM110 (fun _ z => z)
      have q31_1_M11 : id (M11 31 1 = M 31 1) := eM11_31_1.trans q31_1_M7
      have q37_1_M11 : id (M11 37 1 = M 37 1) := eM11_37_1.trans q37_1_M7
      clear eM11_31_1 eM11_37_1
      have tsM11 : TS M11 K W m := TS.fr tsM7 fM110 (fun c h1 h2 => by first | omega | (dsimp only; omega))
      obtain ⟨pzM11, jM11, lvM11, paM11, plM11, piM11, pmM11, gM11, dM11⟩ := pM11
      have c0M11 : M11 cq 0 = M7 cq 0 := dM11.1 0 (by decide) 
      have c1M11 : M11 cq 1 = M7 cq 1 := dM11.1 1 (by decide) 
      have c2M11 : M11 cq 2 = M7 cq 2 := dM11.1 2 (by decide) 
      have c3M11 : M11 cq 3 = M7 cq 3 := dM11.1 3 (by decide) 
      have c4M11 : M11 cq 4 = M7 cq 4 := dM11.1 4 (by decide) 
      have c5M11 : M11 cq 5 = M7 cq 5 := dM11.1 5 (by decide) 
      have c6M11 : M11 cq 6 = M7 cq 6 := dM11.1 6 (by decide) 
      refine g_if_eq (pc' := 24) (tgt := 28) ⟨by omega, by omega⟩ dX2_readClause_21 rfl rfl (fun c12 => ?_) (fun c12 => ?_)
      · refine g_iconst (pc' := 29) dX2_readClause_28 rfl ?_
        refine g_zreturn dX2_readClause_29 (by omega) ?_
        exact ⟨iM11, fM11, q31_1_M11, q37_1_M11, by omega, jM11, lvM11, by omega, by omega, by omega, by omega, (by unfold sCl; rw [gM3.s1 (by omega), gM7.s1 (by omega)]; exact (gM11.r (by omega))), fun z => absurd z (by decide)⟩
      · refine g_iconst (pc' := 25) dX2_readClause_24 rfl ?_
        refine g_goto (tgt := 29) dX2_readClause_25 rfl ?_
        refine g_zreturn dX2_readClause_29 (by omega) ?_
        exact ⟨iM11, fM11, q31_1_M11, q37_1_M11, by omega, jM11, lvM11, by omega, by omega, by omega, by omega, (by unfold sCl; rw [gM3.s1 (by omega), gM7.s1 (by omega)]; exact (gM11.r (by omega))), fun _ => by
            have dm := dM3 (by omega)
            have di := dM11.2.2 (by omega)
            have il := di.1
            have lw : lvM7 ≤ lvM11 := by
              by_cases y : K jM7 = 1 ∧ W jM7 = 294
              · have := (di.2.2.1 y).1; omega
              · have := di.2.2.2 y; omega
            exact ⟨CLC.mk_ dm (by omega) (gM3.s1 (by omega)) (gM7.s1 (by omega)) tq.1 dM7.1 (by omega) k39M7 k40M7 dM11.1 dM11.2.1 di.2.1 di.2.2.1 (fun y => (di.2.2.2 y).1) hl0 (by omega), (dm.2.2.2.2.2.1.tr (CDS.eq (by omega) k39M7 k40M7)).tr di.2.1, by omega, by omega⟩⟩
set_option maxHeartbeats 4000000 in
set_option maxRecDepth 100000 in
theorem l_X2_readText_y_22 (X : Cx) (M : Mm) (hi : IC M) (gb : ∀ j : Nat, (j : Int) < M 31 1 → 0 ≤ M 32 j ∧ M 32 j ≤ 255) : ∀ (kk : Nat) (n : Int) (M1 : Mm) (ic1 : IC M1) (fr1 : Fr (fun c => c = 30 ∨ c = 31 ∨ (33 ≤ c ∧ c ≤ 52)) M M1) (q31_1 : id (M1 31 1 = M 31 1)) (K : Nat → Int) (W : Nat → Int) (m : Nat) (jx : Nat) (lx : Int) (at1 : M1 31 7 = (jx : Int)) (lv1 : M1 30 2 = lx) (ij : jx ≤ m) (ts1 : TS M1 K W m) (tz1 : TZ (M 32) (M 31 1) K W (M1 34) (M1 35) m) (h0 : 0 ≤ n ∧ n ≤ 12) (tx : tXf K W 12 0 0 = tXf K W (12 - n).toNat jx lx) (cp : clP K W n.toNat = (jx, lx)) (td : TXD K W n.toNat M1) (cn : CLN K W n.toNat) (sl : (0 ≤ M1 37 4 ∧ M1 37 4 ≤ (jx : Int)) ∧ 0 ≤ lx), (12 - n).toNat = kk → G X 43 RX2 cX2_readText 2 (some .boolean) (Qi (fun r M1 => IC M1 ∧ Fr (fun c => c = 30 ∨ c = 31 ∨ (33 ≤ c ∧ c ≤ 52)) M M1 ∧ M1 31 1 = M 31 1 ∧ (∃ (K W : Nat → Int) (m : Nat), TS M1 K W m ∧ TZ (M 32) (M 31 1) K W (M1 34) (M1 35) m ∧ (∃ j : Nat, M1 31 7 = (j : Int) ∧ j ≤ m ∧ tXf K W 12 0 0 = (r, j)) ∧ (r = 1 → ∃ n : Nat, M1 37 1 = (n : Int) ∧ CNT K W n ∧ TXD K W n M1)))) 22 [(1, vi n), (0, vr X 30)] [] M1 := by
  intro kk
  induction kk using Nat.strongRecOn with
  | ind kk ih =>
    intro n M1 ic1 fr1 q31_1 K W m jx lx at1 lv1 ij ts1 tz1 h0 tx cp td cn sl hmes
    refine g_iload_n (pc' := 23) 0 dX2_readText_22 rfl rfl ?_
    refine g_bipush (pc' := 25) (v := 12) dX2_readText_23 rfl (by decide) ?_
    refine g_ic_ge (pc' := 28) (tgt := 88) ⟨by omega, by omega⟩ (by decide) dX2_readText_25 rfl rfl (fun c1 => ?_) (fun c1 => ?_)
    · refine g_iconst (pc' := 89) dX2_readText_88 rfl ?_
      refine g_zreturn dX2_readText_89 (by omega) ?_
      exact ⟨ic1, fr1, q31_1, K, W, m, ts1, tz1, ⟨jx, by omega, by omega, (by rw [tx, show (12 - n).toNat = 0 by omega]; rfl)⟩, (fun z => absurd z (by decide))⟩
    · refine g_aload_n (pc' := 29) 1 dX2_readText_28 rfl rfl ?_
      refine g_getR (pc' := 32) dX2_readText_29 rfl f_X2_21 rfl rfl ?_
      refine g_iload_n (pc' := 33) 0 dX2_readText_32 rfl rfl ?_
      refine g_iconst (pc' := 34) dX2_readText_33 rfl ?_
      refine g_iadd (pc' := 35) dX2_readText_34 rfl ?_
      refine g_putI (pc' := 38) dX2_readText_35 rfl p_X2_35 rfl rfl ⟨by omega, by omega⟩ (fun M2 hM2 => ?_)
      have iM2 : IC M2 := IC.wr ic1 hM2 (by unfold okw isT; first | decide | omega)
      have fM2 : Fr (fun c => c = 30 ∨ c = 31 ∨ (33 ≤ c ∧ c ≤ 52)) M M2 := Fr.wr fr1 hM2 (by first | decide | omega | (dsimp only; omega))
      have q31_1_M2 : id (M2 31 1 = M 31 1) := (show M2 31 1 = M1 31 1 by rw [hM2]; exact mu_ne _ _ (by first | decide | omega)).trans q31_1
      have wM2_30_2 : M2 30 2 = M1 30 2 := by rw [hM2]; exact mu_ne _ _ (by first | decide | omega)
      have wM2_31_7 : M2 31 7 = M1 31 7 := by rw [hM2]; exact mu_ne _ _ (by first | decide | omega)
      have wM2_37_4 : M2 37 4 = M1 37 4 := by rw [hM2]; exact mu_ne _ _ (by first | decide | omega)
      have xM2_37_1 : M2 37 1 = n + 1 := by rw [hM2]; exact mu_at _ _ _ _
      have tsM2 : TS M2 K W m := TS.fr ts1 (P := fun q => q = 37) (fun q hq => by rw [hM2]; exact mu_cell _ _ hq) (fun q h1 h2 => by show ¬ q = 37; omega)
      have d34M2 : M2 34 = M1 34 := by rw [hM2]; exact mu_cell _ _ (by decide)
      have d35M2 : M2 35 = M1 35 := by rw [hM2]; exact mu_cell _ _ (by decide)
      refine g_aload_n (pc' := 39) 1 dX2_readText_38 rfl rfl ?_
      refine g_aload_n (pc' := 40) 1 dX2_readText_39 rfl rfl ?_
      refine g_getR (pc' := 43) dX2_readText_40 rfl f_X2_21 rfl rfl ?_
      refine g_getR (pc' := 46) dX2_readText_43 rfl f_X2_38 rfl rfl ?_
      refine g_iload_n (pc' := 47) 0 dX2_readText_46 rfl rfl ?_
      refine g_aald (pc' := 48) (t := 1) (C := RX0) dX2_readText_47 rfl rfl (fun _ => rfl) (by omega) (by omega) ?_
      obtain ⟨k3, ek3⟩ : ∃ z : Nat, z = ([41, 42, 43, 44, 45, 46, 47, 48, 49, 50, 51, 52] : List Nat).getD n.toNat 0 := ⟨_, rfl⟩
      rw [← ek3]
      have hk3 : 41 ≤ k3 ∧ k3 ≤ 52 := by rw [ek3]; exact clD n.toNat (by omega)
      have nk3 : k3 = 41 + n.toNat := by rw [ek3]; exact clD1 n.toNat (by omega)
      refine g_callVi (pc' := 51) (As := [vr X k3]) (b := 30) (S := []) dX2_readText_48 rfl m_X2_42 w_X2_readClause (c_X2_readClause_y X M2 iM2 k3 hk3 K W m jx tsM2 (by omega) (by omega) lx (by omega) (by omega) (by omega)) rfl ⟨_, _, _, rfl, rfl, rfl⟩ (by decide) (by decide) rfl (Nat.le_of_ble_eq_true rfl) (fun z5 M6 q4 => ?_)
      obtain ⟨iM6, fM60, eM6_31_1, eM6_37_1, pM6⟩ := q4
      have fM6 : Fr (fun c => c = 30 ∨ c = 31 ∨ (33 ≤ c ∧ c ≤ 52)) M M6 := Fr.tr fM2 fM60 (fun c z => by first | omega | (dsimp only at z ⊢; omega))
      have q31_1_M6 : id (M6 31 1 = M 31 1) := eM6_31_1.trans q31_1_M2
      have wM6_37_1 : M6 37 1 = M2 37 1 := eM6_37_1
      have xM6_37_1 : M6 37 1 = n + 1 := eM6_37_1.trans xM2_37_1
      clear eM6_31_1
      have tsM6 : TS M6 K W m := TS.fr tsM2 fM60 (fun c h1 h2 => by first | omega | (dsimp only; omega))
      obtain ⟨pzM6, jM6, lvM6, paM6, plM6, piM6, pmM6, gM6, dM6⟩ := pM6
      have d34M6 : M6 34 = M2 34 := fM60 34 (by first | decide | omega | (dsimp only; omega))
      have d35M6 : M6 35 = M2 35 := fM60 35 (by first | decide | omega | (dsimp only; omega))
      refine g_if_ne (pc' := 54) (tgt := 56) ⟨by omega, by omega⟩ dX2_readText_51 rfl rfl (fun c7 => ?_) (fun c7 => ?_)
      · have dd := dM6 (by omega)
        have dl := dd.2.2.1
        have dv := dd.2.2.2
        have cps := clP_s cp (gM6.s1 (by omega))
        have tdn : TXD K W (n.toNat + 1) M6 := by
          refine TXD.add (td.nx ((CDS.eq (M := M1) (M1 := M2) (by omega) (by rw [hM2]; exact mu_cell _ _ (by decide)) (by rw [hM2]; exact mu_cell _ _ (by decide))).tr dd.2.1) (fun k hk => ?_)) ?_
          · rw [fM60 (41 + k) (by first | omega | (dsimp only; omega)), hM2]
            exact mu_cell _ _ (by omega)
          · rw [cp, ← nk3]
            exact dd.1
        refine g_aload_n (pc' := 57) 1 dX2_readText_56 rfl rfl ?_
        refine g_getR (pc' := 60) dX2_readText_57 rfl f_X2_12 rfl rfl ?_
        refine g_callVip (pc' := 63) (As := []) (b := 31) (S := []) dX2_readText_60 rfl m_X2_46 w_X8_isEnd (c_X8_isEnd_x X M6 iM6 K W m jM6 tsM6 (by omega) (by omega)) rfl ⟨_, _, _, rfl, rfl, rfl⟩ (by decide) (by decide) rfl (Nat.le_of_ble_eq_true rfl) (fun z9 q8 => ?_)
        refine g_if_eq (pc' := 66) (tgt := 68) ⟨by omega, by omega⟩ dX2_readText_63 rfl rfl (fun c10 => ?_) (fun c10 => ?_)
        · replace q8 := q8.resolve_left (fun h => absurd (c10.symm.trans h.1) (by decide))
          refine g_aload_n (pc' := 69) 1 dX2_readText_68 rfl rfl ?_
          refine g_getR (pc' := 72) dX2_readText_69 rfl f_X2_12 rfl rfl ?_
          refine g_bipush (pc' := 74) (v := 59) dX2_readText_72 rfl (by decide) ?_
          refine g_callVi (pc' := 77) (As := [vi 59]) (b := 31) (S := []) dX2_readText_74 rfl m_X2_50 w_X8_takeSign (c_X8_takeSign_x X M6 iM6 59 (by decide) K W m jM6 tsM6 (by omega) (by omega)) rfl ⟨_, _, _, rfl, rfl, rfl⟩ (by decide) (by decide) rfl (Nat.le_of_ble_eq_true rfl) (fun z12 M13 q11 => ?_)
          obtain ⟨iM13, fM130, eM13_31_1, pM13⟩ := q11
          have fM13 : Fr (fun c => c = 30 ∨ c = 31 ∨ (33 ≤ c ∧ c ≤ 52)) M M13 := Fr.tr fM6 fM130 fi_62
          have q31_1_M13 : id (M13 31 1 = M 31 1) := eM13_31_1.trans q31_1_M6
          have wM13_30_2 : M13 30 2 = M6 30 2 := (congrFun (fM130 30 (by first | decide | omega | (dsimp only; omega))) 2)
          have wM13_37_4 : M13 37 4 = M6 37 4 := (congrFun (fM130 37 (by first | decide | omega | (dsimp only; omega))) 4)
          have wM13_37_1 : M13 37 1 = M6 37 1 := (congrFun (fM130 37 (by first | decide | omega | (dsimp only; omega))) 1)
          have xM13_37_1 : M13 37 1 = n + 1 := (congrFun (fM130 37 (by first | decide | omega | (dsimp only; omega))) 1).trans xM6_37_1
          clear eM13_31_1
          have tsM13 : TS M13 K W m := TS.fr tsM6 fM130 (fun c h1 h2 => by first | omega | (dsimp only; omega))
          have d34M13 : M13 34 = M6 34 := fM130 34 (by first | decide | omega | (dsimp only; omega))
          have d35M13 : M13 35 = M6 35 := fM130 35 (by first | decide | omega | (dsimp only; omega))
          refine g_if_ne (pc' := 80) (tgt := 82) ⟨by omega, by omega⟩ dX2_readText_77 rfl rfl (fun c14 => ?_) (fun c14 => ?_)
          · refine g_iinc (pc' := 85) (L' := [(1, vi (n + 1)), (0, vr X 30)]) 0 dX2_readText_82 rfl rfl (by decide) rfl ?_
            refine g_goto (tgt := 22) dX2_readText_85 rfl ?_
            refine g_sub [0, 1] rfl ?_
            exact ih _ (by omega) (n + 1) M13 iM13 fM13 q31_1_M13 K W m (jM6 + 1) lvM6 (by omega) (by omega) (by omega) tsM13 (by rw [d34M13, d34M6, d34M2, d35M13, d35M6, d35M2]; exact tz1) (by omega) (by rw [tx, (show (12 - n).toNat = (11 - n).toNat + 1 by omega), tXf_g gM6 (by omega) (by omega), show (12 - (n + 1)).toNat = (11 - n).toNat by omega]) (by rw [show (n + 1).toNat = n.toNat + 1 by omega]; exact cps.2) (by rw [show (n + 1).toNat = n.toNat + 1 by omega]; exact tdn.nx (CDS.eq (by omega) (fM130 39 (by decide)) (fM130 40 (by decide))) (fun k hk => fM130 (41 + k) (by first | omega | (dsimp only; omega)))) (by rw [show (n + 1).toNat = n.toNat + 1 by omega]; exact cn.add (by rw [cps.1]; omega)) (by omega) rfl
          · refine g_iconst (pc' := 81) dX2_readText_80 rfl ?_
            refine g_zreturn dX2_readText_81 (by omega) ?_
            exact ⟨iM13, fM13, q31_1_M13, K, W, m, tsM13, (by rw [d34M13, d34M6, d34M2, d35M13, d35M6, d35M2]; exact tz1), ⟨jM6, by omega, by omega, (by rw [tx, (show (12 - n).toNat = (11 - n).toNat + 1 by omega), tXf_n gM6 (by omega) (by omega) (by omega)])⟩, (fun z => absurd z (by decide))⟩
        · replace q8 := q8.resolve_right (fun h => c10 h.1)
          refine g_iconst (pc' := 67) dX2_readText_66 rfl ?_
          refine g_zreturn dX2_readText_67 (by omega) ?_
          exact ⟨iM6, fM6, q31_1_M6, K, W, m, tsM6, (by rw [d34M6, d34M2, d35M6, d35M2]; exact tz1), ⟨jM6, by omega, by omega, (by rw [tx, (show (12 - n).toNat = (11 - n).toNat + 1 by omega), tXf_e gM6 (by omega) (by omega)])⟩, (fun _ => ⟨n.toNat + 1, by omega, CNT.of cn (by omega) (by rw [cps.1]; omega), tdn⟩)⟩
      · refine g_iconst (pc' := 55) dX2_readText_54 rfl ?_
        refine g_zreturn dX2_readText_55 (by omega) ?_
        exact ⟨iM6, fM6, q31_1_M6, K, W, m, tsM6, (by rw [d34M6, d34M2, d35M6, d35M2]; exact tz1), ⟨jM6, by omega, by omega, (by rw [tx, (show (12 - n).toNat = (11 - n).toNat + 1 by omega), tXf_0 gM6 (by omega)])⟩, (fun z => absurd z (by decide))⟩
set_option maxHeartbeats 4000000 in
set_option maxRecDepth 100000 in
theorem c_X2_readText_y (X : Cx) (M : Mm) (hi : IC M) (gb : ∀ j : Nat, (j : Int) < M 31 1 → 0 ≤ M 32 j ∧ M 32 j ≤ 255) : Con X 43 yX2_readText cX2_readText 2 (some .boolean) [vr X 30] M (Qi (fun r M1 => IC M1 ∧ Fr (fun c => c = 30 ∨ c = 31 ∨ (33 ≤ c ∧ c ≤ 52)) M M1 ∧ M1 31 1 = M 31 1 ∧ (∃ (K W : Nat → Int) (m : Nat), TS M1 K W m ∧ TZ (M 32) (M 31 1) K W (M1 34) (M1 35) m ∧ (∃ j : Nat, M1 31 7 = (j : Int) ∧ j ≤ m ∧ tXf K W 12 0 0 = (r, j)) ∧ (r = 1 → ∃ n : Nat, M1 37 1 = (n : Int) ∧ CNT K W n ∧ TXD K W n M1)))) := by
  refine Con.ofG rfl (Nat.le_of_ble_eq_true rfl) ?_
  show G X 43 RX2 cX2_readText 2 (some .boolean) (Qi (fun r M1 => IC M1 ∧ Fr (fun c => c = 30 ∨ c = 31 ∨ (33 ≤ c ∧ c ≤ 52)) M M1 ∧ M1 31 1 = M 31 1 ∧ (∃ (K W : Nat → Int) (m : Nat), TS M1 K W m ∧ TZ (M 32) (M 31 1) K W (M1 34) (M1 35) m ∧ (∃ j : Nat, M1 31 7 = (j : Int) ∧ j ≤ m ∧ tXf K W 12 0 0 = (r, j)) ∧ (r = 1 → ∃ n : Nat, M1 37 1 = (n : Int) ∧ CNT K W n ∧ TXD K W n M1)))) 0 [(0, vr X 30)] [] M
  refine g_aload_n (pc' := 1) 0 dX2_readText_0 rfl rfl ?_
  refine g_iconst (pc' := 2) dX2_readText_1 rfl ?_
  refine g_putI (pc' := 5) dX2_readText_2 rfl p_X2_25 rfl rfl (by decide) (fun M1 hM1 => ?_)
  have iM1 : IC M1 := IC.wr hi hM1 (by unfold okw isT; first | decide | omega)
  have fM1 : Fr (fun c => c = 30 ∨ c = 31 ∨ (33 ≤ c ∧ c ≤ 52)) M M1 := Fr.wr Fr.rf hM1 (by first | decide | omega | (dsimp only; omega))
  have q31_1_M1 : id (M1 31 1 = M 31 1) := (show M1 31 1 = M 31 1 by rw [hM1]; exact mu_ne _ _ (by first | decide | omega))
  have wM1_31_7 : M1 31 7 = M 31 7 := by rw [hM1]; exact mu_ne _ _ (by first | decide | omega)
  have wM1_37_4 : M1 37 4 = M 37 4 := by rw [hM1]; exact mu_ne _ _ (by first | decide | omega)
  have wM1_37_1 : M1 37 1 = M 37 1 := by rw [hM1]; exact mu_ne _ _ (by first | decide | omega)
  have xM1_30_2 : M1 30 2 = 0 := by rw [hM1]; exact mu_at _ _ _ _
  refine g_aload_n (pc' := 6) 0 dX2_readText_5 rfl rfl ?_
  refine g_getR (pc' := 9) dX2_readText_6 rfl f_X2_21 rfl rfl ?_
  refine g_iconst (pc' := 10) dX2_readText_9 rfl ?_
  refine g_putI (pc' := 13) dX2_readText_10 rfl p_X2_29 rfl rfl (by decide) (fun M2 hM2 => ?_)
  have iM2 : IC M2 := IC.wr iM1 hM2 (by unfold okw isT; first | decide | omega)
  have fM2 : Fr (fun c => c = 30 ∨ c = 31 ∨ (33 ≤ c ∧ c ≤ 52)) M M2 := Fr.wr fM1 hM2 (by first | decide | omega | (dsimp only; omega))
  have q31_1_M2 : id (M2 31 1 = M 31 1) := (show M2 31 1 = M1 31 1 by rw [hM2]; exact mu_ne _ _ (by first | decide | omega)).trans q31_1_M1
  have wM2_30_2 : M2 30 2 = M1 30 2 := by rw [hM2]; exact mu_ne _ _ (by first | decide | omega)
  have wM2_31_7 : M2 31 7 = M1 31 7 := by rw [hM2]; exact mu_ne _ _ (by first | decide | omega)
  have wM2_37_1 : M2 37 1 = M1 37 1 := by rw [hM2]; exact mu_ne _ _ (by first | decide | omega)
  have xM2_30_2 : M2 30 2 = 0 := (show M2 30 2 = M1 30 2 by rw [hM2]; exact mu_ne _ _ (by first | decide | omega)).trans xM1_30_2
  have xM2_37_4 : M2 37 4 = 0 := by rw [hM2]; exact mu_at _ _ _ _
  refine g_aload_n (pc' := 14) 0 dX2_readText_13 rfl rfl ?_
  refine g_getR (pc' := 17) dX2_readText_14 rfl f_X2_12 rfl rfl ?_
  refine g_callVv (pc' := 20) (As := []) (b := 31) (S := []) dX2_readText_17 rfl m_X2_32 w_X8_cut (c_X8_cut_x X M2 iM2 (by rw [fM2 32 (by decide), q31_1_M2]; exact gb)) rfl ⟨_, _, _, rfl, rfl, rfl⟩ (by decide) (by decide) rfl (Nat.le_of_ble_eq_true rfl) (fun M4 q3 => ?_)
  obtain ⟨iM4, fM40, eM4_31_1, pM4⟩ := q3
  have fM4 : Fr (fun c => c = 30 ∨ c = 31 ∨ (33 ≤ c ∧ c ≤ 52)) M M4 := Fr.tr fM2 fM40 fi_63
  have q31_1_M4 : id (M4 31 1 = M 31 1) := eM4_31_1.trans q31_1_M2
  have wM4_30_2 : M4 30 2 = M2 30 2 := (congrFun (fM40 30 (by first | decide | omega | (dsimp only; omega))) 2)
  have wM4_37_4 : M4 37 4 = M2 37 4 := (congrFun (fM40 37 (by first | decide | omega | (dsimp only; omega))) 4)
  have wM4_37_1 : M4 37 1 = M2 37 1 := (congrFun (fM40 37 (by first | decide | omega | (dsimp only; omega))) 1)
  have xM4_30_2 : M4 30 2 = 0 := (congrFun (fM40 30 (by first | decide | omega | (dsimp only; omega))) 2).trans xM2_30_2
  have xM4_37_4 : M4 37 4 = 0 := (congrFun (fM40 37 (by first | decide | omega | (dsimp only; omega))) 4).trans xM2_37_4
  clear eM4_31_1
  obtain ⟨ct1M4, ct2M4, ct3M4⟩ := pM4
  have z0M4 : TZ (M2 32) (M2 31 1) (M4 33) (fun i => wof (M2 32) (M4 33 i) (M4 34 i) (M4 35 i)) (M4 34) (M4 35) (M4 31 6 - 1).toNat := ct3M4.1
  have z1M4 := ct3M4.2
  have e32M4 : M4 32 = M2 32 := fM40 32 (by decide)
  have e32o : M2 32 = M 32 := fM2 32 (by decide)
  have hlM4 := hi.2.2.1.1
  have elM4 : M2 31 1 = M 31 1 := q31_1_M2
  have tsM4 : TS M4 (M4 33) (WM M4) (M4 31 6 - 1).toNat := by
    refine ⟨rfl, rfl, ⟨M2 31 1, by omega, ?_⟩, ?_⟩
    · unfold WM; rw [e32M4]; exact z0M4
    · unfold WM; rw [e32M4]; exact z1M4
  have tzM4 : TZ (M 32) (M 31 1) (M4 33) (WM M4) (M4 34) (M4 35) (M4 31 6 - 1).toNat := by
    unfold WM
    rw [e32M4, ← e32o, show M 31 1 = M2 31 1 by omega]
    exact z0M4
  refine g_iconst (pc' := 21) dX2_readText_20 rfl ?_
  refine g_istore_n (pc' := 22) (i := 1) (L' := [(1, vi 0), (0, vr X 30)]) dX2_readText_21 rfl rfl (by decide) rfl ?_
  refine g_sub [0, 1] rfl ?_
  exact l_X2_readText_y_22 X M hi gb _ 0 M4 iM4 fM4 q31_1_M4 (M4 33) (WM M4) (M4 31 6 - 1).toNat 0 0 (by omega) (by omega) (by omega) tsM4 tzM4 (by omega) rfl rfl (TXD.zero _ _ _) (fun k hk => absurd hk (by show ¬ k < 0; omega)) (by omega) rfl
