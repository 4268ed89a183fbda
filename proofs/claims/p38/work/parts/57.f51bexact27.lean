set_option maxHeartbeats 4000000 in
set_option maxRecDepth 100000 in
theorem l_X3_run_y_18 (X : Cx) (M : Mm) (hi : IC M) (ta tb : Nat) (n : Int) (P : Nat → Int) (L : Int) (F Z m z : Nat → Int) (tv : TV M 2 ta tb n P L F Z) (pub : PUB n P L F Z m z) (hz6 : ∀ j : Nat, j < 6 → z j ≤ 60) (K W : Nat → Int) (N : Nat) (hN : M 37 1 = (N : Int) ∧ N ≤ 12) (td : TXD K W N M) : ∀ (kk : Nat)  (M1 : Mm) (ic1 : IC M1) (fr1 : Fr (fun c => (53 ≤ c ∧ c ≤ 59) ∨ (2 ≤ c ∧ c ≤ 6)) M M1) (h0 : 0 ≤ M1 53 4 ∧ M1 53 4 ≤ (N : Int)) (a1 : Nat) (b1 : Nat) (P1 : Nat → Int) (L1 : Int) (F1 : Nat → Int) (Z1 : Nat → Int) (mm : Nat → Int) (tv1 : TV M1 54 a1 b1 n P1 L1 F1 Z1) (pap1 : PAP n P1 L1 F1 Z1 mm z) (tt1 : TV M1 2 ta tb n P L F Z) (hd1 : 0 ≤ M1 53 3 ∧ M1 53 3 ≤ 20 * M1 53 4) (es : evC n z K W m (M1 53 4).toNat = (0, mm, M1 53 3)), (12 - M1 53 4).toNat = kk → G X 6 RX3 cX3_run 4 (some .int) (Qi (fun r M1 => IC M1 ∧ Fr (fun c => (53 ≤ c ∧ c ≤ 59) ∨ (2 ≤ c ∧ c ≤ 6)) M M1 ∧ ((M1 2 5 = M 2 5 ∧ -6 ≤ r ∧ r ≤ 1000) ∧ (r < 0 → EVO n z K W m N r (M1 53 4) ∧ PB M1 2 n m z) ∧ (0 ≤ r → EVO n z K W m N r (-1) ∧ PB M1 2 n (evC n z K W m N).2.1 z)))) 18 [(0, vr X 53), (1, vr X 37), (2, vr X 2)] [] M1 := by
  intro kk
  induction kk using Nat.strongRecOn with
  | ind kk ih =>
    intro M1 ic1 fr1 h0 a1 b1 P1 L1 F1 Z1 mm tv1 pap1 tt1 hd1 es hmes
    have ctn := pub.1.1
    have tn := tv.2.2.1
    refine g_aload_n (pc' := 19) 0 dX3_run_18 rfl rfl ?_
    refine g_getI (pc' := 22) dX3_run_19 rfl f_X3_30 rfl rfl (fun v1 ev1 rv1 => ?_)
    refine g_aload_n (pc' := 23) 1 dX3_run_22 rfl rfl ?_
    refine g_getI (pc' := 26) dX3_run_23 rfl f_X3_33 rfl rfl (fun v2 ev2 rv2 => ?_)
    have bv2 : 0 ≤ v2 ∧ v2 ≤ 12 := by rw [ev2]; exact ic1.2.2.2.1.2.1
    have kv2 : v2 = (N : Int) := by rw [ev2, fr1 37 (by decide)]; exact hN.1
    refine g_ic_ge (pc' := 29) (tgt := 63) rv1 rv2 dX3_run_26 rfl rfl (fun c3 => ?_) (fun c3 => ?_)
    · refine g_aload_n (pc' := 64) 0 dX3_run_63 rfl rfl ?_
      refine g_getR (pc' := 67) dX3_run_64 rfl f_X3_12 rfl rfl ?_
      refine g_callVv (pc' := 70) (As := []) (b := 54) (S := []) dX3_run_67 rfl m_X3_46 w_X7_toLowestTerms (c_X7_toLowestTerms_x X M1 54 isT_54 (ic1.1 _ isT_54) a1 b1 n P1 L1 F1 Z1 tv1 pap1.ct) rfl ⟨_, _, _, rfl, rfl, rfl⟩ (by decide) (by decide) rfl (Nat.le_of_ble_eq_true rfl) (fun M5 q4 => ?_)
      obtain ⟨kM5, fM50, gM50, pM5⟩ := q4
      have iM5 : IC M5 := IC.ofT ic1 isT_54 fM50 kM5
      have fM5 : Fr (fun c => (53 ≤ c ∧ c ≤ 59) ∨ (2 ≤ c ∧ c ≤ 6)) M M5 := Fr.tr fr1 fM50 (fun c z => by unfold inT at z; first | omega | (dsimp only; omega))
      have wM5_53_3 : M5 53 3 = M1 53 3 := (congrFun (fM50 53 (by unfold inT; first | decide | omega)) 3)
      have wM5_53_4 : M5 53 4 = M1 53 4 := (congrFun (fM50 53 (by unfold inT; first | decide | omega)) 4)
      obtain ⟨PM5, LM5, tvM5, dvM5, dlM5⟩ := pM5
      have plow := PAP.low pap1 dvM5 dlM5
      have ttM5 := TV.far tt1 fM50 (fun c z => by unfold inT at z ⊢; omega)
      refine g_aload_n (pc' := 71) 2 dX3_run_70 rfl rfl ?_
      refine g_aload_n (pc' := 72) 0 dX3_run_71 rfl rfl ?_
      refine g_getR (pc' := 75) dX3_run_72 rfl f_X3_12 rfl rfl ?_
      refine g_callVv (pc' := 78) (As := [vr X 54]) (b := 2) (S := []) dX3_run_75 rfl m_X3_22 w_X7_copyFrom (c_X7_copyFrom_x X M5 2 isT_2 (iM5.1 _ isT_2) 54 isT_54 (iM5.1 _ isT_54) (by decide) (isT.apart isT_2 isT_54 (by decide)) ta tb n P L F Z ttM5 a1 b1 n PM5 LM5 F1 Z1 tvM5 ctn) rfl ⟨_, _, _, rfl, rfl, rfl⟩ (by decide) (by decide) rfl (Nat.le_of_ble_eq_true rfl) (fun M7 q6 => ?_)
      obtain ⟨kM7, fM70, gM70, pM7⟩ := q6
      have iM7 : IC M7 := IC.ofT iM5 isT_2 fM70 kM7
      have fM7 : Fr (fun c => (53 ≤ c ∧ c ≤ 59) ∨ (2 ≤ c ∧ c ≤ 6)) M M7 := Fr.tr fM5 fM70 (fun c z => by unfold inT at z; first | omega | (dsimp only; omega))
      have wM7_53_3 : M7 53 3 = M5 53 3 := (congrFun (fM70 53 (by unfold inT; first | decide | omega)) 3)
      have wM7_53_4 : M7 53 4 = M5 53 4 := (congrFun (fM70 53 (by unfold inT; first | decide | omega)) 4)
      obtain ⟨PM7, FM7, ZM7, tvM7, dp1, dp2, dp3⟩ := pM7
      have plM7 := PUB.cp plow dp1 dp2 dp3
      refine g_aload_n (pc' := 79) 0 dX3_run_78 rfl rfl ?_
      refine g_getI (pc' := 82) dX3_run_79 rfl f_X3_26 rfl rfl (fun v8 ev8 rv8 => ?_)
      refine g_ireturn dX3_run_82 ?_
      have eN : (M1 53 4).toNat = N := by omega
      rw [eN] at es
      have tf := (show TV M7 2 _ _ _ _ _ _ _ from tvM7).2.2.1
      exact ⟨iM7, fM7, by omega, fun q => absurd q (by omega), fun _ => ⟨Or.inr ⟨by rw [es], by rw [es]; show v8 = M1 53 3; omega, rfl, by omega⟩, by rw [es]; exact ⟨ta, tb, PM7, LM5, FM7, ZM7, tvM7, plM7⟩⟩⟩
    · refine g_aload_n (pc' := 30) 0 dX3_run_29 rfl rfl ?_
      refine g_aload_n (pc' := 31) 1 dX3_run_30 rfl rfl ?_
      refine g_aload_n (pc' := 32) 1 dX3_run_31 rfl rfl ?_
      refine g_getR (pc' := 35) dX3_run_32 rfl f_X3_38 rfl rfl ?_
      refine g_aload_n (pc' := 36) 0 dX3_run_35 rfl rfl ?_
      refine g_getI (pc' := 39) dX3_run_36 rfl f_X3_30 rfl rfl (fun v9 ev9 rv9 => ?_)
      obtain rfl : v1 = v9 := ev1.trans ev9.symm
      refine g_aald (pc' := 40) (t := 1) (C := RX0) dX3_run_39 rfl rfl (fun _ => rfl) (by omega) (by omega) ?_
      obtain ⟨k10, ek10⟩ : ∃ z : Nat, z = ([41, 42, 43, 44, 45, 46, 47, 48, 49, 50, 51, 52] : List Nat).getD v1.toNat 0 := ⟨_, rfl⟩
      rw [← ek10]
      have hk10 : 41 ≤ k10 ∧ k10 ≤ 52 := by rw [ek10]; exact clD v1.toNat (by omega)
      have nk10 : k10 = 41 + (M1 53 4).toNat := by rw [ek10, show (v1).toNat = (M1 53 4).toNat by omega]; exact clD1 (M1 53 4).toNat (by omega)
      refine g_callVi (pc' := 43) (As := [vr X 37, vr X k10]) (b := 53) (S := []) dX3_run_40 rfl m_X3_42 w_X3_runClause (c_X3_runClause_y X M1 ic1 k10 hk10 a1 b1 n P1 L1 F1 Z1 mm z tv1 pap1 (by omega) K W (clP K W (M1 53 4).toNat).1 (clP K W (M1 53 4).toNat).2 (by have q := (td (M1 53 4).toNat (by omega)).fr (fr1 39 (by decide)) (fr1 40 (by decide)) (congrFun (fr1 37 (by decide)) 4) (fr1 (41 + (M1 53 4).toNat) (by first | omega | (dsimp only; omega))); rw [← nk10] at q; exact q) hz6) rfl ⟨_, _, _, rfl, rfl, rfl⟩ (by decide) (by decide) rfl (Nat.le_of_ble_eq_true rfl) (fun z12 M13 q11 => ?_)
      obtain ⟨iM13, fM130, eM13_53_4, eM13_54_5, pM13⟩ := q11
      have fM13 : Fr (fun c => (53 ≤ c ∧ c ≤ 59) ∨ (2 ≤ c ∧ c ≤ 6)) M M13 := Fr.tr fr1 fM130 fi_5
      have wM13_53_4 : M13 53 4 = M1 53 4 := eM13_53_4
      obtain ⟨rrM13, rnM13, rzM13⟩ := pM13
      have ttM13 := TV.far tt1 fM130 (fun c z => by unfold inT; first | omega | (dsimp only at z; omega))
      refine g_istore_n (pc' := 44) (i := 3) (L' := [(3, vi z12), (0, vr X 53), (1, vr X 37), (2, vr X 2)]) dX3_run_43 rfl rfl (by decide) rfl ?_
      refine g_iload_n (pc' := 45) 0 dX3_run_44 rfl rfl ?_
      refine g_if_ge (pc' := 48) (tgt := 50) ⟨by omega, by omega⟩ dX3_run_45 rfl rfl (fun c14 => ?_) (fun c14 => ?_)
      · obtain ⟨x1, ⟨na, nb, NP, NL, NF, NZ, ntv, npap⟩, x3, x4⟩ := rzM13 (by omega)
        refine g_aload_n (pc' := 51) 1 dX3_run_50 rfl rfl ?_
        refine g_dup (pc' := 52) dX3_run_51 rfl rfl ?_
        refine g_getI (pc' := 55) dX3_run_52 rfl f_X3_30 rfl rfl (fun v15 ev15 rv15 => ?_)
        refine g_iconst (pc' := 56) dX3_run_55 rfl ?_
        refine g_iadd (pc' := 57) dX3_run_56 rfl ?_
        refine g_putI (pc' := 60) dX3_run_57 rfl p_X3_30 rfl rfl ⟨by omega, by omega⟩ (fun M16 hM16 => ?_)
        have iM16 : IC M16 := IC.wr iM13 hM16 (by unfold okw isT; first | decide | omega)
        have fM16 : Fr (fun c => (53 ≤ c ∧ c ≤ 59) ∨ (2 ≤ c ∧ c ≤ 6)) M M16 := Fr.wr fM13 hM16 (by first | decide | omega | (dsimp only; omega))
        have wM16_53_3 : M16 53 3 = M13 53 3 := by rw [hM16]; exact mu_ne _ _ (by first | decide | omega)
        have xM16_53_4 : M16 53 4 = v15 + 1 := by rw [hM16]; exact mu_at _ _ _ _
        have tvM16 := TV.far ntv (show Fr (fun c => c = 53) M13 M16 from fun q hq => by rw [hM16]; exact mu_cell _ _ hq) (fun c z => by unfold inT; first | omega | (dsimp only at z; omega))
        have ttM16 := TV.far ttM13 (show Fr (fun c => c = 53) M13 M16 from fun q hq => by rw [hM16]; exact mu_cell _ _ hq) (fun c z => by unfold inT; first | omega | (dsimp only at z; omega))
        refine g_goto (tgt := 18) dX3_run_60 rfl ?_
        refine g_sub [1, 2, 3] rfl ?_
        exact ih _ (by omega) M16 iM16 fM16 (by omega) na nb NP NL NF NZ (evI n z K W (clP K W (M1 53 4).toNat).1 (clP K W (M1 53 4).toNat).2 (0, mm, M1 53 3) (cTm K W (clP K W (M1 53 4).toNat).1 (clP K W (M1 53 4).toNat).2).toNat).2.1 tvM16 npap ttM16 (by omega) (by rw [show (M16 53 4).toNat = (M1 53 4).toNat + 1 by omega, evC_s (by rw [es]), es, show M16 53 3 = M13 53 3 by omega]; exact Prod.ext x1 (Prod.ext rfl x3.symm)) rfl
      · refine g_iload_n (pc' := 49) 0 dX3_run_48 rfl rfl ?_
        refine g_ireturn dX3_run_49 ?_
        have ec : (evC n z K W m ((M1 53 4).toNat + 1)).1 = z12 := by
          rw [evC_s (by rw [es]), es]
          exact rnM13 (by omega)
        have tf := ttM13.2.2.1
        exact ⟨iM13, fM13, by omega, fun _ => ⟨Or.inl ⟨(M1 53 4).toNat, by omega, by rw [es], by rw [ec]; omega, ec.symm, by omega⟩, ta, tb, P, L, F, Z, ttM13, pub⟩, fun q => absurd q (by omega)⟩
set_option maxHeartbeats 4000000 in
set_option maxRecDepth 100000 in
theorem c_X3_run_y (X : Cx) (M : Mm) (hi : IC M) (ta tb : Nat) (n : Int) (P : Nat → Int) (L : Int) (F Z m z : Nat → Int) (tv : TV M 2 ta tb n P L F Z) (pub : PUB n P L F Z m z) (hz6 : ∀ j : Nat, j < 6 → z j ≤ 60) (K W : Nat → Int) (N : Nat) (hN : M 37 1 = (N : Int) ∧ N ≤ 12) (td : TXD K W N M) : Con X 6 yX3_run cX3_run 4 (some .int) [vr X 53, vr X 37, vr X 2] M (Qi (fun r M1 => IC M1 ∧ Fr (fun c => (53 ≤ c ∧ c ≤ 59) ∨ (2 ≤ c ∧ c ≤ 6)) M M1 ∧ ((M1 2 5 = M 2 5 ∧ -6 ≤ r ∧ r ≤ 1000) ∧ (r < 0 → EVO n z K W m N r (M1 53 4) ∧ PB M1 2 n m z) ∧ (0 ≤ r → EVO n z K W m N r (-1) ∧ PB M1 2 n (evC n z K W m N).2.1 z)))) := by
  refine Con.ofG rfl (Nat.le_of_ble_eq_true rfl) ?_
  show G X 6 RX3 cX3_run 4 (some .int) (Qi (fun r M1 => IC M1 ∧ Fr (fun c => (53 ≤ c ∧ c ≤ 59) ∨ (2 ≤ c ∧ c ≤ 6)) M M1 ∧ ((M1 2 5 = M 2 5 ∧ -6 ≤ r ∧ r ≤ 1000) ∧ (r < 0 → EVO n z K W m N r (M1 53 4) ∧ PB M1 2 n m z) ∧ (0 ≤ r → EVO n z K W m N r (-1) ∧ PB M1 2 n (evC n z K W m N).2.1 z)))) 0 [(0, vr X 53), (1, vr X 37), (2, vr X 2)] [] M
  have ctn := pub.1.1
  have tn := tv.2.2.1
  refine g_aload_n (pc' := 1) 0 dX3_run_0 rfl rfl ?_
  refine g_getR (pc' := 4) dX3_run_1 rfl f_X3_12 rfl rfl ?_
  refine g_aload_n (pc' := 5) 2 dX3_run_4 rfl rfl ?_
  refine g_callVv (pc' := 8) (As := [vr X 2]) (b := 54) (S := []) dX3_run_5 rfl m_X3_22 w_X7_copyFrom (c_X7_copyFrom_x X M 54 isT_54 (hi.1 _ isT_54) 2 isT_2 (hi.1 _ isT_2) (by decide) (isT.apart isT_54 isT_2 (by decide)) (M 54 2).toNat (M 54 3).toNat (M 54 5) (M (M 54 2).toNat) (M 54 4) (M (54 + 2)) (M (54 + 1)) (TV.of (hi.1 _ isT_54)) ta tb n P L F Z tv ctn) rfl ⟨_, _, _, rfl, rfl, rfl⟩ (by decide) (by decide) rfl (Nat.le_of_ble_eq_true rfl) (fun M2 q1 => ?_)
  obtain ⟨kM2, fM20, gM20, pM2⟩ := q1
  have iM2 : IC M2 := IC.ofT hi isT_54 fM20 kM2
  have fM2 : Fr (fun c => (53 ≤ c ∧ c ≤ 59) ∨ (2 ≤ c ∧ c ≤ 6)) M M2 := Fr.tr Fr.rf fM20 (fun c z => by unfold inT at z; first | omega | (dsimp only; omega))
  have wM2_53_3 : M2 53 3 = M 53 3 := (congrFun (fM20 53 (by unfold inT; first | decide | omega)) 3)
  have wM2_53_4 : M2 53 4 = M 53 4 := (congrFun (fM20 53 (by unfold inT; first | decide | omega)) 4)
  obtain ⟨PM2, FM2, ZM2, tvM2, cp1, cp2, cp3⟩ := pM2
  have ppM2 : PAP n PM2 L FM2 ZM2 m z := pub.1.cp cp1 cp2 cp3
  have ttM2 := TV.far tv fM20 (fun c z => by unfold inT at z ⊢; omega)
  refine g_aload_n (pc' := 9) 0 dX3_run_8 rfl rfl ?_
  refine g_iconst (pc' := 10) dX3_run_9 rfl ?_
  refine g_putI (pc' := 13) dX3_run_10 rfl p_X3_26 rfl rfl (by decide) (fun M3 hM3 => ?_)
  have iM3 : IC M3 := IC.wr iM2 hM3 (by unfold okw isT; first | decide | omega)
  have fM3 : Fr (fun c => (53 ≤ c ∧ c ≤ 59) ∨ (2 ≤ c ∧ c ≤ 6)) M M3 := Fr.wr fM2 hM3 (by first | decide | omega | (dsimp only; omega))
  have wM3_53_4 : M3 53 4 = M2 53 4 := by rw [hM3]; exact mu_ne _ _ (by first | decide | omega)
  have xM3_54_5 : M3 54 5 = M 2 5 := (show M3 54 5 = M2 54 5 by rw [hM3]; exact mu_ne _ _ (by first | decide | omega)).trans gM20
  have xM3_53_3 : M3 53 3 = 0 := by rw [hM3]; exact mu_at _ _ _ _
  have tvM3 := TV.far tvM2 (show Fr (fun c => c = 53) M2 M3 from fun q hq => by rw [hM3]; exact mu_cell _ _ hq) (fun c z => by unfold inT; first | omega | (dsimp only at z; omega))
  have ttM3 := TV.far ttM2 (show Fr (fun c => c = 53) M2 M3 from fun q hq => by rw [hM3]; exact mu_cell _ _ hq) (fun c z => by unfold inT; first | omega | (dsimp only at z; omega))
  refine g_aload_n (pc' := 14) 0 dX3_run_13 rfl rfl ?_
  refine g_iconst (pc' := 15) dX3_run_14 rfl ?_
  refine g_putI (pc' := 18) dX3_run_15 rfl p_X3_30 rfl rfl (by decide) (fun M4 hM4 => ?_)
  have iM4 : IC M4 := IC.wr iM3 hM4 (by unfold okw isT; first | decide | omega)
  have fM4 : Fr (fun c => (53 ≤ c ∧ c ≤ 59) ∨ (2 ≤ c ∧ c ≤ 6)) M M4 := Fr.wr fM3 hM4 (by first | decide | omega | (dsimp only; omega))
  have wM4_53_3 : M4 53 3 = M3 53 3 := by rw [hM4]; exact mu_ne _ _ (by first | decide | omega)
  have xM4_54_5 : M4 54 5 = M 2 5 := (show M4 54 5 = M3 54 5 by rw [hM4]; exact mu_ne _ _ (by first | decide | omega)).trans xM3_54_5
  have xM4_53_3 : M4 53 3 = 0 := (show M4 53 3 = M3 53 3 by rw [hM4]; exact mu_ne _ _ (by first | decide | omega)).trans xM3_53_3
  have xM4_53_4 : M4 53 4 = 0 := by rw [hM4]; exact mu_at _ _ _ _
  have tvM4 := TV.far tvM3 (show Fr (fun c => c = 53) M3 M4 from fun q hq => by rw [hM4]; exact mu_cell _ _ hq) (fun c z => by unfold inT; first | omega | (dsimp only at z; omega))
  have ttM4 := TV.far ttM3 (show Fr (fun c => c = 53) M3 M4 from fun q hq => by rw [hM4]; exact mu_cell _ _ hq) (fun c z => by unfold inT; first | omega | (dsimp only at z; omega))
  refine g_sub [0, 1, 2] rfl ?_
  exact l_X3_run_y_18 X M hi ta tb n P L F Z m z tv pub hz6 K W N hN td _ M4 iM4 fM4 (by omega) (M 54 2).toNat (M 54 3).toNat PM2 L FM2 ZM2 m tvM4 ppM2 ttM4 (by omega) (by rw [show (M4 53 4).toNat = 0 by omega, show M4 53 3 = 0 by omega]; rfl) rfl
set_option maxHeartbeats 4000000 in
set_option maxRecDepth 100000 in
theorem c_X9_evening_y (X : Cx) (M : Mm) (hi : IC M) (gb : ∀ j : Nat, (j : Int) < M 31 1 → 0 ≤ M 32 j ∧ M 32 j ≤ 255) (ta tb : Nat) (n : Int) (P : Nat → Int) (L : Int) (F Z m z : Nat → Int) (tv : TV M 2 ta tb n P L F Z) (pub : PUB n P L F Z m z) (hz6 : ∀ j : Nat, j < 6 → z j ≤ 60) : Con X 50 yX9_evening cX9_evening 3 (some .int) [vr X 0] M (Qi (fun r M1 => IC M1 ∧ Fr (fun c => (2 ≤ c ∧ c ≤ 6) ∨ (30 ≤ c ∧ c ≤ 59) ∨ c = 0 ∨ c = 96) M M1 ∧ M1 1 2 = M 1 2 ∧ M1 1 4 = M 1 4 ∧ M1 1 6 = M 1 6 ∧ M1 11 5 = M 11 5 ∧ M1 10 2 = M 10 2 ∧ M1 10 4 = M 10 4 ∧ M1 10 6 = M 10 6 ∧ M1 20 5 = M 20 5 ∧ M1 19 2 = M 19 2 ∧ M1 19 4 = M 19 4 ∧ M1 19 6 = M 19 6 ∧ M1 29 0 = M 29 0 ∧ M1 29 1 = M 29 1 ∧ M1 0 11 = M 0 11 ∧ ((inI r ∧ M1 31 1 = 0 ∧ M1 2 5 = M 2 5) ∧ -6 ≤ r ∧ EVR (M 32) (M 31 1) n z m M1 r ∧ M1 0 10 = ngv r ∧ M1 96 = ansF (M 96) r))) := by
  refine Con.ofG rfl (Nat.le_of_ble_eq_true rfl) ?_
  show G X 50 RX9 cX9_evening 3 (some .int) (Qi (fun r M1 => IC M1 ∧ Fr (fun c => (2 ≤ c ∧ c ≤ 6) ∨ (30 ≤ c ∧ c ≤ 59) ∨ c = 0 ∨ c = 96) M M1 ∧ M1 1 2 = M 1 2 ∧ M1 1 4 = M 1 4 ∧ M1 1 6 = M 1 6 ∧ M1 11 5 = M 11 5 ∧ M1 10 2 = M 10 2 ∧ M1 10 4 = M 10 4 ∧ M1 10 6 = M 10 6 ∧ M1 20 5 = M 20 5 ∧ M1 19 2 = M 19 2 ∧ M1 19 4 = M 19 4 ∧ M1 19 6 = M 19 6 ∧ M1 29 0 = M 29 0 ∧ M1 29 1 = M 29 1 ∧ M1 0 11 = M 0 11 ∧ ((inI r ∧ M1 31 1 = 0 ∧ M1 2 5 = M 2 5) ∧ -6 ≤ r ∧ EVR (M 32) (M 31 1) n z m M1 r ∧ M1 0 10 = ngv r ∧ M1 96 = ansF (M 96) r))) 0 [(0, vr X 0)] [] M
  have ctn := pub.1.1
  have tn := tv.2.2.1
  refine g_aload_n (pc' := 1) 0 dX9_evening_0 rfl rfl ?_
  refine g_getR (pc' := 4) dX9_evening_1 rfl f_X9_27 rfl rfl ?_
  refine g_callVi (pc' := 7) (As := []) (b := 30) (S := []) dX9_evening_4 rfl m_X9_165 w_X2_readText (c_X2_readText_y X M hi gb) rfl ⟨_, _, _, rfl, rfl, rfl⟩ (by decide) (by decide) rfl (Nat.le_of_ble_eq_true rfl) (fun z2 M3 q1 => ?_)
  obtain ⟨iM3, fM30, eM3_31_1, pM3⟩ := q1
  have fM3 : Fr (fun c => (2 ≤ c ∧ c ≤ 6) ∨ (30 ≤ c ∧ c ≤ 59) ∨ c = 0 ∨ c = 96) M M3 := Fr.tr Fr.rf fM30 fi_64
  have q1_2_M3 : id (M3 1 2 = M 1 2) := (congrFun (fM30 1 (by first | decide | omega | (dsimp only; omega))) 2)
  have q1_4_M3 : id (M3 1 4 = M 1 4) := (congrFun (fM30 1 (by first | decide | omega | (dsimp only; omega))) 4)
  have q1_6_M3 : id (M3 1 6 = M 1 6) := (congrFun (fM30 1 (by first | decide | omega | (dsimp only; omega))) 6)
  have q11_5_M3 : id (M3 11 5 = M 11 5) := (congrFun (fM30 11 (by first | decide | omega | (dsimp only; omega))) 5)
  have q10_2_M3 : id (M3 10 2 = M 10 2) := (congrFun (fM30 10 (by first | decide | omega | (dsimp only; omega))) 2)
  have q10_4_M3 : id (M3 10 4 = M 10 4) := (congrFun (fM30 10 (by first | decide | omega | (dsimp only; omega))) 4)
  have q10_6_M3 : id (M3 10 6 = M 10 6) := (congrFun (fM30 10 (by first | decide | omega | (dsimp only; omega))) 6)
  have q20_5_M3 : id (M3 20 5 = M 20 5) := (congrFun (fM30 20 (by first | decide | omega | (dsimp only; omega))) 5)
  have q19_2_M3 : id (M3 19 2 = M 19 2) := (congrFun (fM30 19 (by first | decide | omega | (dsimp only; omega))) 2)
  have q19_4_M3 : id (M3 19 4 = M 19 4) := (congrFun (fM30 19 (by first | decide | omega | (dsimp only; omega))) 4)
  have q19_6_M3 : id (M3 19 6 = M 19 6) := (congrFun (fM30 19 (by first | decide | omega | (dsimp only; omega))) 6)
  have q29_0_M3 : id (M3 29 0 = M 29 0) := (congrFun (fM30 29 (by first | decide | omega | (dsimp only; omega))) 0)
  have q29_1_M3 : id (M3 29 1 = M 29 1) := (congrFun (fM30 29 (by first | decide | omega | (dsimp only; omega))) 1)
  have q0_11_M3 : id (M3 0 11 = M 0 11) := (congrFun (fM30 0 (by first | decide | omega | (dsimp only; omega))) 11)
  have q31_1_M3 : (M3 31 1 = M 31 1) := eM3_31_1
  have q2_5_M3 : (M3 2 5 = M 2 5) := (congrFun (fM30 2 (by first | decide | omega | (dsimp only; omega))) 5)
  have q0_12_M3 : (M3 0 12 = M 0 12) := (congrFun (fM30 0 (by first | decide | omega | (dsimp only; omega))) 12)
  have q0_13_M3 : (M3 0 13 = M 0 13) := (congrFun (fM30 0 (by first | decide | omega | (dsimp only; omega))) 13)
  have q0_10_M3 : (M3 0 10 = M 0 10) := (congrFun (fM30 0 (by first | decide | omega | (dsimp only; omega))) 10)
  have wM3_0_10 : M3 0 10 = M 0 10 := (congrFun (fM30 0 (by first | decide | omega | (dsimp only; omega))) 10)
  have wM3_0_12 : M3 0 12 = M 0 12 := (congrFun (fM30 0 (by first | decide | omega | (dsimp only; omega))) 12)
  have wM3_0_13 : M3 0 13 = M 0 13 := (congrFun (fM30 0 (by first | decide | omega | (dsimp only; omega))) 13)
  have wM3_31_1 : M3 31 1 = M 31 1 := eM3_31_1
  have wM3_2_5 : M3 2 5 = M 2 5 := (congrFun (fM30 2 (by first | decide | omega | (dsimp only; omega))) 5)
  obtain ⟨K, W, m4_, tsM3, tzM3, ⟨jj, j1, j2, j3⟩, jt⟩ := pM3
  have z01 : z2 = 0 ∨ z2 = 1 := by
    have y := tXf01 K W 12 0 0
    rw [j3] at y
    exact y
  have ttM3 := TV.far tv fM30 (fun c z => by unfold inT; first | omega | (dsimp only at z; omega))
  have e96M3 := fM30 96 (by first | decide | omega | (dsimp only; omega))
  refine g_istore_n (pc' := 8) (i := 1) (L' := [(1, vi z2), (0, vr X 0)]) dX9_evening_7 rfl rfl (by decide) rfl ?_
  refine g_aload_n (pc' := 9) 1 dX9_evening_8 rfl rfl ?_
  refine g_iload_n (pc' := 10) 0 dX9_evening_9 rfl rfl ?_
  refine g_if_eq (pc' := 13) (tgt := 17) ⟨by omega, by omega⟩ dX9_evening_10 rfl rfl (fun c4 => ?_) (fun c4 => ?_)
  · refine g_aload_n (pc' := 18) 1 dX9_evening_17 rfl rfl ?_
    refine g_getR (pc' := 21) dX9_evening_18 rfl f_X9_35 rfl rfl ?_
    refine g_callVip (pc' := 24) (As := []) (b := 31) (S := [vr X 0]) dX9_evening_21 rfl m_X9_169 w_X8_place (c_X8_place_x X M3 iM3 K W m4_ jj tsM3 j1 j2) rfl ⟨_, _, _, rfl, rfl, rfl⟩ (by decide) (by decide) rfl (Nat.le_of_ble_eq_true rfl) (fun z6 q5 => ?_)
    have m4 := tsM3.m4
    have pb := iM3.2.2.1.2.2.2 jj (by omega)
    have pb1 := pb.1
    have pb2 := pb.2.1
    clear pb
    refine g_putI (pc' := 27) dX9_evening_24 rfl p_X9_68 rfl rfl ⟨by omega, by omega⟩ (fun M7 hM7 => ?_)
    have iM7 : IC M7 := IC.wr iM3 hM7 (by unfold okw isT; first | decide | omega)
    have fM7 : Fr (fun c => (2 ≤ c ∧ c ≤ 6) ∨ (30 ≤ c ∧ c ≤ 59) ∨ c = 0 ∨ c = 96) M M7 := Fr.wr fM3 hM7 (by first | decide | omega | (dsimp only; omega))
    have q1_2_M7 : id (M7 1 2 = M 1 2) := (show M7 1 2 = M3 1 2 by rw [hM7]; exact mu_ne _ _ (by first | decide | omega)).trans q1_2_M3
    have q1_4_M7 : id (M7 1 4 = M 1 4) := (show M7 1 4 = M3 1 4 by rw [hM7]; exact mu_ne _ _ (by first | decide | omega)).trans q1_4_M3
    have q1_6_M7 : id (M7 1 6 = M 1 6) := (show M7 1 6 = M3 1 6 by rw [hM7]; exact mu_ne _ _ (by first | decide | omega)).trans q1_6_M3
    have q11_5_M7 : id (M7 11 5 = M 11 5) := (show M7 11 5 = M3 11 5 by rw [hM7]; exact mu_ne _ _ (by first | decide | omega)).trans q11_5_M3
    have q10_2_M7 : id (M7 10 2 = M 10 2) := (show M7 10 2 = M3 10 2 by rw [hM7]; exact mu_ne _ _ (by first | decide | omega)).trans q10_2_M3
    have q10_4_M7 : id (M7 10 4 = M 10 4) := (show M7 10 4 = M3 10 4 by rw [hM7]; exact mu_ne _ _ (by first | decide | omega)).trans q10_4_M3
    have q10_6_M7 : id (M7 10 6 = M 10 6) := (show M7 10 6 = M3 10 6 by rw [hM7]; exact mu_ne _ _ (by first | decide | omega)).trans q10_6_M3
    have q20_5_M7 : id (M7 20 5 = M 20 5) := (show M7 20 5 = M3 20 5 by rw [hM7]; exact mu_ne _ _ (by first | decide | omega)).trans q20_5_M3
    have q19_2_M7 : id (M7 19 2 = M 19 2) := (show M7 19 2 = M3 19 2 by rw [hM7]; exact mu_ne _ _ (by first | decide | omega)).trans q19_2_M3
    have q19_4_M7 : id (M7 19 4 = M 19 4) := (show M7 19 4 = M3 19 4 by rw [hM7]; exact mu_ne _ _ (by first | decide | omega)).trans q19_4_M3
    have q19_6_M7 : id (M7 19 6 = M 19 6) := (show M7 19 6 = M3 19 6 by rw [hM7]; exact mu_ne _ _ (by first | decide | omega)).trans q19_6_M3
    have q29_0_M7 : id (M7 29 0 = M 29 0) := (show M7 29 0 = M3 29 0 by rw [hM7]; exact mu_ne _ _ (by first | decide | omega)).trans q29_0_M3
    have q29_1_M7 : id (M7 29 1 = M 29 1) := (show M7 29 1 = M3 29 1 by rw [hM7]; exact mu_ne _ _ (by first | decide | omega)).trans q29_1_M3
    have q0_11_M7 : id (M7 0 11 = M 0 11) := (show M7 0 11 = M3 0 11 by rw [hM7]; exact mu_ne _ _ (by first | decide | omega)).trans q0_11_M3
    have q31_1_M7 : (M7 31 1 = M 31 1) := (show M7 31 1 = M3 31 1 by rw [hM7]; exact mu_ne _ _ (by first | decide | omega)).trans q31_1_M3
    have q2_5_M7 : (M7 2 5 = M 2 5) := (show M7 2 5 = M3 2 5 by rw [hM7]; exact mu_ne _ _ (by first | decide | omega)).trans q2_5_M3
    have q0_13_M7 : (M7 0 13 = M 0 13) := (show M7 0 13 = M3 0 13 by rw [hM7]; exact mu_ne _ _ (by first | decide | omega)).trans q0_13_M3
    have q0_10_M7 : (M7 0 10 = M 0 10) := (show M7 0 10 = M3 0 10 by rw [hM7]; exact mu_ne _ _ (by first | decide | omega)).trans q0_10_M3
    have wM7_0_10 : M7 0 10 = M3 0 10 := by rw [hM7]; exact mu_ne _ _ (by first | decide | omega)
    have wM7_0_13 : M7 0 13 = M3 0 13 := by rw [hM7]; exact mu_ne _ _ (by first | decide | omega)
    have wM7_31_1 : M7 31 1 = M3 31 1 := by rw [hM7]; exact mu_ne _ _ (by first | decide | omega)
    have wM7_2_5 : M7 2 5 = M3 2 5 := by rw [hM7]; exact mu_ne _ _ (by first | decide | omega)
    have xM7_0_12 : M7 0 12 = z6 := by rw [hM7]; exact mu_at _ _ _ _
    have ttM7 := TV.far ttM3 (show Fr (fun c => c = 0) M3 M7 from fun q hq => by rw [hM7]; exact mu_cell _ _ hq) (fun c z => by unfold inT; first | omega | (dsimp only at z; omega))
    have e96M7 : M7 96 = M 96 := (show M7 96 = M3 96 by rw [hM7]; exact mu_cell _ _ (by decide)).trans e96M3
    have fe : EVQ (M3 34) (tXf K W 12 0 0) z6 := Or.inr ⟨by rw [j3]; show z2 = 0; omega, by rw [j3]; exact q5⟩
    have hwM7 : Fr (fun c => c = 0 ∨ c = 31) M3 M7 := Fr.wr Fr.rf hM7 (by omega)
    refine g_aload_n (pc' := 28) 1 dX9_evening_27 rfl rfl ?_
    refine g_getR (pc' := 31) dX9_evening_28 rfl f_X9_35 rfl rfl ?_
    refine g_iconst (pc' := 32) dX9_evening_31 rfl ?_
    refine g_putI (pc' := 35) dX9_evening_32 rfl p_X9_147 rfl rfl (by decide) (fun M8 hM8 => ?_)
    have iM8 : IC M8 := IC.wr iM7 hM8 (by unfold okw isT; first | decide | omega)
    have fM8 : Fr (fun c => (2 ≤ c ∧ c ≤ 6) ∨ (30 ≤ c ∧ c ≤ 59) ∨ c = 0 ∨ c = 96) M M8 := Fr.wr fM7 hM8 (by first | decide | omega | (dsimp only; omega))
    have q1_2_M8 : id (M8 1 2 = M 1 2) := (show M8 1 2 = M7 1 2 by rw [hM8]; exact mu_ne _ _ (by first | decide | omega)).trans q1_2_M7
    have q1_4_M8 : id (M8 1 4 = M 1 4) := (show M8 1 4 = M7 1 4 by rw [hM8]; exact mu_ne _ _ (by first | decide | omega)).trans q1_4_M7
    have q1_6_M8 : id (M8 1 6 = M 1 6) := (show M8 1 6 = M7 1 6 by rw [hM8]; exact mu_ne _ _ (by first | decide | omega)).trans q1_6_M7
    have q11_5_M8 : id (M8 11 5 = M 11 5) := (show M8 11 5 = M7 11 5 by rw [hM8]; exact mu_ne _ _ (by first | decide | omega)).trans q11_5_M7
    have q10_2_M8 : id (M8 10 2 = M 10 2) := (show M8 10 2 = M7 10 2 by rw [hM8]; exact mu_ne _ _ (by first | decide | omega)).trans q10_2_M7
    have q10_4_M8 : id (M8 10 4 = M 10 4) := (show M8 10 4 = M7 10 4 by rw [hM8]; exact mu_ne _ _ (by first | decide | omega)).trans q10_4_M7
    have q10_6_M8 : id (M8 10 6 = M 10 6) := (show M8 10 6 = M7 10 6 by rw [hM8]; exact mu_ne _ _ (by first | decide | omega)).trans q10_6_M7
    have q20_5_M8 : id (M8 20 5 = M 20 5) := (show M8 20 5 = M7 20 5 by rw [hM8]; exact mu_ne _ _ (by first | decide | omega)).trans q20_5_M7
    have q19_2_M8 : id (M8 19 2 = M 19 2) := (show M8 19 2 = M7 19 2 by rw [hM8]; exact mu_ne _ _ (by first | decide | omega)).trans q19_2_M7
    have q19_4_M8 : id (M8 19 4 = M 19 4) := (show M8 19 4 = M7 19 4 by rw [hM8]; exact mu_ne _ _ (by first | decide | omega)).trans q19_4_M7
    have q19_6_M8 : id (M8 19 6 = M 19 6) := (show M8 19 6 = M7 19 6 by rw [hM8]; exact mu_ne _ _ (by first | decide | omega)).trans q19_6_M7
    have q29_0_M8 : id (M8 29 0 = M 29 0) := (show M8 29 0 = M7 29 0 by rw [hM8]; exact mu_ne _ _ (by first | decide | omega)).trans q29_0_M7
    have q29_1_M8 : id (M8 29 1 = M 29 1) := (show M8 29 1 = M7 29 1 by rw [hM8]; exact mu_ne _ _ (by first | decide | omega)).trans q29_1_M7
    have q0_11_M8 : id (M8 0 11 = M 0 11) := (show M8 0 11 = M7 0 11 by rw [hM8]; exact mu_ne _ _ (by first | decide | omega)).trans q0_11_M7
    have q2_5_M8 : (M8 2 5 = M 2 5) := (show M8 2 5 = M7 2 5 by rw [hM8]; exact mu_ne _ _ (by first | decide | omega)).trans q2_5_M7
    have q0_13_M8 : (M8 0 13 = M 0 13) := (show M8 0 13 = M7 0 13 by rw [hM8]; exact mu_ne _ _ (by first | decide | omega)).trans q0_13_M7
    have q0_10_M8 : (M8 0 10 = M 0 10) := (show M8 0 10 = M7 0 10 by rw [hM8]; exact mu_ne _ _ (by first | decide | omega)).trans q0_10_M7
    have wM8_0_10 : M8 0 10 = M7 0 10 := by rw [hM8]; exact mu_ne _ _ (by first | decide | omega)
    have wM8_0_12 : M8 0 12 = M7 0 12 := by rw [hM8]; exact mu_ne _ _ (by first | decide | omega)
    have wM8_0_13 : M8 0 13 = M7 0 13 := by rw [hM8]; exact mu_ne _ _ (by first | decide | omega)
    have wM8_2_5 : M8 2 5 = M7 2 5 := by rw [hM8]; exact mu_ne _ _ (by first | decide | omega)
    have xM8_0_12 : M8 0 12 = z6 := (show M8 0 12 = M7 0 12 by rw [hM8]; exact mu_ne _ _ (by first | decide | omega)).trans xM7_0_12
    have xM8_31_1 : M8 31 1 = 0 := by rw [hM8]; exact mu_at _ _ _ _
    have ttM8 := TV.far ttM7 (show Fr (fun c => c = 31) M7 M8 from fun q hq => by rw [hM8]; exact mu_cell _ _ hq) (fun c z => by unfold inT; first | omega | (dsimp only at z; omega))
    have e96M8 : M8 96 = M 96 := (show M8 96 = M7 96 by rw [hM8]; exact mu_cell _ _ (by decide)).trans e96M7
    have hwM8 : Fr (fun c => c = 0 ∨ c = 31) M3 M8 := Fr.wr hwM7 hM8 (by omega)
    refine g_aload_n (pc' := 36) 1 dX9_evening_35 rfl rfl ?_
    refine g_iconst (pc' := 37) dX9_evening_36 rfl ?_
    refine g_putI (pc' := 40) dX9_evening_37 rfl p_X9_72 rfl rfl (by decide) (fun M9 hM9 => ?_)
    have iM9 : IC M9 := IC.wr iM8 hM9 (by unfold okw isT; first | decide | omega)
    have fM9 : Fr (fun c => (2 ≤ c ∧ c ≤ 6) ∨ (30 ≤ c ∧ c ≤ 59) ∨ c = 0 ∨ c = 96) M M9 := Fr.wr fM8 hM9 (by first | decide | omega | (dsimp only; omega))
    have q1_2_M9 : id (M9 1 2 = M 1 2) := (show M9 1 2 = M8 1 2 by rw [hM9]; exact mu_ne _ _ (by first | decide | omega)).trans q1_2_M8
    have q1_4_M9 : id (M9 1 4 = M 1 4) := (show M9 1 4 = M8 1 4 by rw [hM9]; exact mu_ne _ _ (by first | decide | omega)).trans q1_4_M8
    have q1_6_M9 : id (M9 1 6 = M 1 6) := (show M9 1 6 = M8 1 6 by rw [hM9]; exact mu_ne _ _ (by first | decide | omega)).trans q1_6_M8
    have q11_5_M9 : id (M9 11 5 = M 11 5) := (show M9 11 5 = M8 11 5 by rw [hM9]; exact mu_ne _ _ (by first | decide | omega)).trans q11_5_M8
    have q10_2_M9 : id (M9 10 2 = M 10 2) := (show M9 10 2 = M8 10 2 by rw [hM9]; exact mu_ne _ _ (by first | decide | omega)).trans q10_2_M8
    have q10_4_M9 : id (M9 10 4 = M 10 4) := (show M9 10 4 = M8 10 4 by rw [hM9]; exact mu_ne _ _ (by first | decide | omega)).trans q10_4_M8
    have q10_6_M9 : id (M9 10 6 = M 10 6) := (show M9 10 6 = M8 10 6 by rw [hM9]; exact mu_ne _ _ (by first | decide | omega)).trans q10_6_M8
    have q20_5_M9 : id (M9 20 5 = M 20 5) := (show M9 20 5 = M8 20 5 by rw [hM9]; exact mu_ne _ _ (by first | decide | omega)).trans q20_5_M8
    have q19_2_M9 : id (M9 19 2 = M 19 2) := (show M9 19 2 = M8 19 2 by rw [hM9]; exact mu_ne _ _ (by first | decide | omega)).trans q19_2_M8
    have q19_4_M9 : id (M9 19 4 = M 19 4) := (show M9 19 4 = M8 19 4 by rw [hM9]; exact mu_ne _ _ (by first | decide | omega)).trans q19_4_M8
    have q19_6_M9 : id (M9 19 6 = M 19 6) := (show M9 19 6 = M8 19 6 by rw [hM9]; exact mu_ne _ _ (by first | decide | omega)).trans q19_6_M8
    have q29_0_M9 : id (M9 29 0 = M 29 0) := (show M9 29 0 = M8 29 0 by rw [hM9]; exact mu_ne _ _ (by first | decide | omega)).trans q29_0_M8
    have q29_1_M9 : id (M9 29 1 = M 29 1) := (show M9 29 1 = M8 29 1 by rw [hM9]; exact mu_ne _ _ (by first | decide | omega)).trans q29_1_M8
    have q0_11_M9 : id (M9 0 11 = M 0 11) := (show M9 0 11 = M8 0 11 by rw [hM9]; exact mu_ne _ _ (by first | decide | omega)).trans q0_11_M8
    have q2_5_M9 : (M9 2 5 = M 2 5) := (show M9 2 5 = M8 2 5 by rw [hM9]; exact mu_ne _ _ (by first | decide | omega)).trans q2_5_M8
    have q0_10_M9 : (M9 0 10 = M 0 10) := (show M9 0 10 = M8 0 10 by rw [hM9]; exact mu_ne _ _ (by first | decide | omega)).trans q0_10_M8
    have wM9_0_10 : M9 0 10 = M8 0 10 := by rw [hM9]; exact mu_ne _ _ (by first | decide | omega)
    have wM9_0_12 : M9 0 12 = M8 0 12 := by rw [hM9]; exact mu_ne _ _ (by first | decide | omega)
    have wM9_31_1 : M9 31 1 = M8 31 1 := by rw [hM9]; exact mu_ne _ _ (by first | decide | omega)
    have wM9_2_5 : M9 2 5 = M8 2 5 := by rw [hM9]; exact mu_ne _ _ (by first | decide | omega)
    have xM9_0_12 : M9 0 12 = z6 := (show M9 0 12 = M8 0 12 by rw [hM9]; exact mu_ne _ _ (by first | decide | omega)).trans xM8_0_12
    have xM9_31_1 : M9 31 1 = 0 := (show M9 31 1 = M8 31 1 by rw [hM9]; exact mu_ne _ _ (by first | decide | omega)).trans xM8_31_1
    have xM9_0_13 : M9 0 13 = (-1) := by rw [hM9]; exact mu_at _ _ _ _
    have ttM9 := TV.far ttM8 (show Fr (fun c => c = 0) M8 M9 from fun q hq => by rw [hM9]; exact mu_cell _ _ hq) (fun c z => by unfold inT; first | omega | (dsimp only at z; omega))
    have e96M9 : M9 96 = M 96 := (show M9 96 = M8 96 by rw [hM9]; exact mu_cell _ _ (by decide)).trans e96M8
    have hwM9 : Fr (fun c => c = 0 ∨ c = 31) M3 M9 := Fr.wr hwM8 hM9 (by omega)
    refine g_iload_n (pc' := 41) 0 dX9_evening_40 rfl rfl ?_
    refine g_if_ne (pc' := 44) (tgt := 51) ⟨by omega, by omega⟩ dX9_evening_41 rfl rfl (fun c10 => ?_) (fun c10 => ?_)
    · obtain ⟨NN, n1, n2, tdd⟩ := jt (by omega)
      have nb := n2.1
      have fw : Fr (fun c => c = 0 ∨ c = 31) M3 M9 := hwM9
      have fwn := congrFun (fw 37 (by decide)) 1
      refine g_aload_n (pc' := 52) 1 dX9_evening_51 rfl rfl ?_
      refine g_getR (pc' := 55) dX9_evening_52 rfl f_X9_39 rfl rfl ?_
      refine g_aload_n (pc' := 56) 1 dX9_evening_55 rfl rfl ?_
      refine g_getR (pc' := 59) dX9_evening_56 rfl f_X9_27 rfl rfl ?_
      refine g_getR (pc' := 62) dX9_evening_59 rfl f_X9_172 rfl rfl ?_
      refine g_aload_n (pc' := 63) 1 dX9_evening_62 rfl rfl ?_
      refine g_getR (pc' := 66) dX9_evening_63 rfl f_X9_12 rfl rfl ?_
      refine g_getR (pc' := 69) dX9_evening_66 rfl f_X9_86 rfl rfl ?_
      refine g_callVi (pc' := 72) (As := [vr X 37, vr X 2]) (b := 53) (S := []) dX9_evening_69 rfl m_X9_176 w_X3_run (c_X3_run_y X M9 iM9 ta tb n P L F Z m z ttM9 pub hz6 K W NN (by omega) (tdd.nx (CDS.eq ((congrFun (fw 37 (by decide)) 4)) (fw 39 (by omega)) (fw 40 (by omega))) (fun k hk => (fw (41 + k) (by omega))))) rfl ⟨_, _, _, rfl, rfl, rfl⟩ (by decide) (by decide) rfl (Nat.le_of_ble_eq_true rfl) (fun z12 M13 q11 => ?_)
      obtain ⟨iM13, fM130, pM13⟩ := q11
      have fM13 : Fr (fun c => (2 ≤ c ∧ c ≤ 6) ∨ (30 ≤ c ∧ c ≤ 59) ∨ c = 0 ∨ c = 96) M M13 := Fr.tr fM9 fM130 fi_14
      have q1_2_M13 : id (M13 1 2 = M 1 2) := (congrFun (fM130 1 (by first | decide | omega | (dsimp only; omega))) 2).trans q1_2_M9
      have q1_4_M13 : id (M13 1 4 = M 1 4) := (congrFun (fM130 1 (by first | decide | omega | (dsimp only; omega))) 4).trans q1_4_M9
      have q1_6_M13 : id (M13 1 6 = M 1 6) := (congrFun (fM130 1 (by first | decide | omega | (dsimp only; omega))) 6).trans q1_6_M9
      have q11_5_M13 : id (M13 11 5 = M 11 5) := (congrFun (fM130 11 (by first | decide | omega | (dsimp only; omega))) 5).trans q11_5_M9
      have q10_2_M13 : id (M13 10 2 = M 10 2) := (congrFun (fM130 10 (by first | decide | omega | (dsimp only; omega))) 2).trans q10_2_M9
      have q10_4_M13 : id (M13 10 4 = M 10 4) := (congrFun (fM130 10 (by first | decide | omega | (dsimp only; omega))) 4).trans q10_4_M9
      have q10_6_M13 : id (M13 10 6 = M 10 6) := (congrFun (fM130 10 (by first | decide | omega | (dsimp only; omega))) 6).trans q10_6_M9
      have q20_5_M13 : id (M13 20 5 = M 20 5) := (congrFun (fM130 20 (by first | decide | omega | (dsimp only; omega))) 5).trans q20_5_M9
      have q19_2_M13 : id (M13 19 2 = M 19 2) := (congrFun (fM130 19 (by first | decide | omega | (dsimp only; omega))) 2).trans q19_2_M9
      have q19_4_M13 : id (M13 19 4 = M 19 4) := (congrFun (fM130 19 (by first | decide | omega | (dsimp only; omega))) 4).trans q19_4_M9
      have q19_6_M13 : id (M13 19 6 = M 19 6) := (congrFun (fM130 19 (by first | decide | omega | (dsimp only; omega))) 6).trans q19_6_M9
      have q29_0_M13 : id (M13 29 0 = M 29 0) := (congrFun (fM130 29 (by first | decide | omega | (dsimp only; omega))) 0).trans q29_0_M9
      have q29_1_M13 : id (M13 29 1 = M 29 1) := (congrFun (fM130 29 (by first | decide | omega | (dsimp only; omega))) 1).trans q29_1_M9
      have q0_11_M13 : id (M13 0 11 = M 0 11) := (congrFun (fM130 0 (by first | decide | omega | (dsimp only; omega))) 11).trans q0_11_M9
      have q0_10_M13 : (M13 0 10 = M 0 10) := (congrFun (fM130 0 (by first | decide | omega | (dsimp only; omega))) 10).trans q0_10_M9
      have wM13_0_10 : M13 0 10 = M9 0 10 := (congrFun (fM130 0 (by first | decide | omega | (dsimp only; omega))) 10)
      have wM13_0_12 : M13 0 12 = M9 0 12 := (congrFun (fM130 0 (by first | decide | omega | (dsimp only; omega))) 12)
      have wM13_0_13 : M13 0 13 = M9 0 13 := (congrFun (fM130 0 (by first | decide | omega | (dsimp only; omega))) 13)
      have wM13_31_1 : M13 31 1 = M9 31 1 := (congrFun (fM130 31 (by first | decide | omega | (dsimp only; omega))) 1)
      have xM13_0_12 : M13 0 12 = z6 := (congrFun (fM130 0 (by first | decide | omega | (dsimp only; omega))) 12).trans xM9_0_12
      have xM13_31_1 : M13 31 1 = 0 := (congrFun (fM130 31 (by first | decide | omega | (dsimp only; omega))) 1).trans xM9_31_1
      have xM13_0_13 : M13 0 13 = (-1) := (congrFun (fM130 0 (by first | decide | omega | (dsimp only; omega))) 13).trans xM9_0_13
      obtain ⟨ruM13, rnM13, rpM13⟩ := pM13
      have e96M13 := (fM130 96 (by first | decide | omega | (dsimp only; omega))).trans e96M9
      refine g_istore_n (pc' := 73) (i := 2) (L' := [(2, vi z12), (1, vi z2), (0, vr X 0)]) dX9_evening_72 rfl rfl (by decide) rfl ?_
      refine g_iload_n (pc' := 74) 0 dX9_evening_73 rfl rfl ?_
      refine g_if_ge (pc' := 77) (tgt := 88) ⟨by omega, by omega⟩ dX9_evening_74 rfl rfl (fun c14 => ?_) (fun c14 => ?_)
      · refine g_aload_n (pc' := 89) 2 dX9_evening_88 rfl rfl ?_
        refine g_iload_n (pc' := 90) 0 dX9_evening_89 rfl rfl ?_
        refine g_callVi (pc' := 93) (As := [vi z12]) (b := 0) (S := []) dX9_evening_90 rfl m_X9_79 w_X9_answered (c_X9_answered_x X M13 iM13 z12 ⟨by omega, by omega⟩) rfl ⟨_, _, _, rfl, rfl, rfl⟩ (by decide) (by decide) rfl (Nat.le_of_ble_eq_true rfl) (fun z16 M17 q15 => ?_)
        obtain ⟨iM17, fM170, eM17_2_5, eM17_1_2, eM17_1_4, eM17_1_6, eM17_11_5, eM17_10_2, eM17_10_4, eM17_10_6, eM17_20_5, eM17_19_2, eM17_19_4, eM17_19_6, eM17_29_0, eM17_29_1, eM17_31_1, eM17_0_11, eM17_0_12, eM17_0_13, pM17⟩ := q15
        have fM17 : Fr (fun c => (2 ≤ c ∧ c ≤ 6) ∨ (30 ≤ c ∧ c ≤ 59) ∨ c = 0 ∨ c = 96) M M17 := Fr.tr fM13 fM170 fi_15
        have q1_2_M17 : id (M17 1 2 = M 1 2) := eM17_1_2.trans q1_2_M13
        have q1_4_M17 : id (M17 1 4 = M 1 4) := eM17_1_4.trans q1_4_M13
        have q1_6_M17 : id (M17 1 6 = M 1 6) := eM17_1_6.trans q1_6_M13
        have q11_5_M17 : id (M17 11 5 = M 11 5) := eM17_11_5.trans q11_5_M13
        have q10_2_M17 : id (M17 10 2 = M 10 2) := eM17_10_2.trans q10_2_M13
        have q10_4_M17 : id (M17 10 4 = M 10 4) := eM17_10_4.trans q10_4_M13
        have q10_6_M17 : id (M17 10 6 = M 10 6) := eM17_10_6.trans q10_6_M13
        have q20_5_M17 : id (M17 20 5 = M 20 5) := eM17_20_5.trans q20_5_M13
        have q19_2_M17 : id (M17 19 2 = M 19 2) := eM17_19_2.trans q19_2_M13
        have q19_4_M17 : id (M17 19 4 = M 19 4) := eM17_19_4.trans q19_4_M13
        have q19_6_M17 : id (M17 19 6 = M 19 6) := eM17_19_6.trans q19_6_M13
        have q29_0_M17 : id (M17 29 0 = M 29 0) := eM17_29_0.trans q29_0_M13
        have q29_1_M17 : id (M17 29 1 = M 29 1) := eM17_29_1.trans q29_1_M13
        have q0_11_M17 : id (M17 0 11 = M 0 11) := eM17_0_11.trans q0_11_M13
        have wM17_0_12 : M17 0 12 = M13 0 12 := eM17_0_12
        have wM17_0_13 : M17 0 13 = M13 0 13 := eM17_0_13
        have wM17_31_1 : M17 31 1 = M13 31 1 := eM17_31_1
        have wM17_2_5 : M17 2 5 = M13 2 5 := eM17_2_5
        have xM17_0_12 : M17 0 12 = z6 := eM17_0_12.trans xM13_0_12
        have xM17_31_1 : M17 31 1 = 0 := eM17_31_1.trans xM13_31_1
        have xM17_0_13 : M17 0 13 = (-1) := eM17_0_13.trans xM13_0_13
        clear eM17_1_2 eM17_1_4 eM17_1_6 eM17_11_5 eM17_10_2 eM17_10_4 eM17_10_6 eM17_20_5 eM17_19_2 eM17_19_4 eM17_19_6 eM17_29_0 eM17_29_1 eM17_0_11
        obtain ⟨anM17, asM17, a96M17⟩ := pM17
        rw [e96M13] at a96M17
        have faM17 := fM170
        refine g_ireturn dX9_evening_93 ?_
        exact ⟨iM17, fM17, q1_2_M17, q1_4_M17, q1_6_M17, q11_5_M17, q10_2_M17, q10_4_M17, q10_6_M17, q20_5_M17, q19_2_M17, q19_4_M17, q19_6_M17, q29_0_M17, q29_1_M17, q0_11_M17, by omega, by omega, ⟨K, W, M3 34, M3 35, m4_, tzM3, by rw [show M17 0 12 = z6 by omega]; exact fe, fun q => absurd q (by rw [j3]; show ¬ z2 = 0; omega), fun _ => ⟨NN, n2, by rw [show M17 0 13 = -1 by omega, anM17]; exact (rpM13 (by omega)).1, fun q => absurd q (by omega), fun _ => PB.far ((rpM13 (by omega)).2) faM17 (fun c z => by unfold inT; first | omega | (dsimp only at z; omega))⟩⟩, by rw [anM17]; exact asM17, by rw [anM17]; exact a96M17⟩
      · refine g_aload_n (pc' := 78) 2 dX9_evening_77 rfl rfl ?_
        refine g_aload_n (pc' := 79) 2 dX9_evening_78 rfl rfl ?_
        refine g_getR (pc' := 82) dX9_evening_79 rfl f_X9_39 rfl rfl ?_
        refine g_getI (pc' := 85) dX9_evening_82 rfl f_X9_180 rfl rfl (fun v18 ev18 rv18 => ?_)
        refine g_putI (pc' := 88) dX9_evening_85 rfl p_X9_72 rfl rfl rv18 (fun M19 hM19 => ?_)
        have iM19 : IC M19 := IC.wr iM13 hM19 (by unfold okw isT; first | decide | omega)
        have fM19 : Fr (fun c => (2 ≤ c ∧ c ≤ 6) ∨ (30 ≤ c ∧ c ≤ 59) ∨ c = 0 ∨ c = 96) M M19 := Fr.wr fM13 hM19 (by first | decide | omega | (dsimp only; omega))
        have q1_2_M19 : id (M19 1 2 = M 1 2) := (show M19 1 2 = M13 1 2 by rw [hM19]; exact mu_ne _ _ (by first | decide | omega)).trans q1_2_M13
        have q1_4_M19 : id (M19 1 4 = M 1 4) := (show M19 1 4 = M13 1 4 by rw [hM19]; exact mu_ne _ _ (by first | decide | omega)).trans q1_4_M13
        have q1_6_M19 : id (M19 1 6 = M 1 6) := (show M19 1 6 = M13 1 6 by rw [hM19]; exact mu_ne _ _ (by first | decide | omega)).trans q1_6_M13
        have q11_5_M19 : id (M19 11 5 = M 11 5) := (show M19 11 5 = M13 11 5 by rw [hM19]; exact mu_ne _ _ (by first | decide | omega)).trans q11_5_M13
        have q10_2_M19 : id (M19 10 2 = M 10 2) := (show M19 10 2 = M13 10 2 by rw [hM19]; exact mu_ne _ _ (by first | decide | omega)).trans q10_2_M13
        have q10_4_M19 : id (M19 10 4 = M 10 4) := (show M19 10 4 = M13 10 4 by rw [hM19]; exact mu_ne _ _ (by first | decide | omega)).trans q10_4_M13
        have q10_6_M19 : id (M19 10 6 = M 10 6) := (show M19 10 6 = M13 10 6 by rw [hM19]; exact mu_ne _ _ (by first | decide | omega)).trans q10_6_M13
        have q20_5_M19 : id (M19 20 5 = M 20 5) := (show M19 20 5 = M13 20 5 by rw [hM19]; exact mu_ne _ _ (by first | decide | omega)).trans q20_5_M13
        have q19_2_M19 : id (M19 19 2 = M 19 2) := (show M19 19 2 = M13 19 2 by rw [hM19]; exact mu_ne _ _ (by first | decide | omega)).trans q19_2_M13
        have q19_4_M19 : id (M19 19 4 = M 19 4) := (show M19 19 4 = M13 19 4 by rw [hM19]; exact mu_ne _ _ (by first | decide | omega)).trans q19_4_M13
        have q19_6_M19 : id (M19 19 6 = M 19 6) := (show M19 19 6 = M13 19 6 by rw [hM19]; exact mu_ne _ _ (by first | decide | omega)).trans q19_6_M13
        have q29_0_M19 : id (M19 29 0 = M 29 0) := (show M19 29 0 = M13 29 0 by rw [hM19]; exact mu_ne _ _ (by first | decide | omega)).trans q29_0_M13
        have q29_1_M19 : id (M19 29 1 = M 29 1) := (show M19 29 1 = M13 29 1 by rw [hM19]; exact mu_ne _ _ (by first | decide | omega)).trans q29_1_M13
        have q0_11_M19 : id (M19 0 11 = M 0 11) := (show M19 0 11 = M13 0 11 by rw [hM19]; exact mu_ne _ _ (by first | decide | omega)).trans q0_11_M13
        have q0_10_M19 : (M19 0 10 = M 0 10) := (show M19 0 10 = M13 0 10 by rw [hM19]; exact mu_ne _ _ (by first | decide | omega)).trans q0_10_M13
        have wM19_0_10 : M19 0 10 = M13 0 10 := by rw [hM19]; exact mu_ne _ _ (by first | decide | omega)
        have wM19_0_12 : M19 0 12 = M13 0 12 := by rw [hM19]; exact mu_ne _ _ (by first | decide | omega)
        have wM19_31_1 : M19 31 1 = M13 31 1 := by rw [hM19]; exact mu_ne _ _ (by first | decide | omega)
        have wM19_2_5 : M19 2 5 = M13 2 5 := by rw [hM19]; exact mu_ne _ _ (by first | decide | omega)
        have xM19_0_12 : M19 0 12 = z6 := (show M19 0 12 = M13 0 12 by rw [hM19]; exact mu_ne _ _ (by first | decide | omega)).trans xM13_0_12
        have xM19_31_1 : M19 31 1 = 0 := (show M19 31 1 = M13 31 1 by rw [hM19]; exact mu_ne _ _ (by first | decide | omega)).trans xM13_31_1
        have xM19_0_13 : M19 0 13 = v18 := by rw [hM19]; exact mu_at _ _ _ _
        
        have fzM19 := (show Fr (fun c => c = 0) M13 M19 from fun q hq => by rw [hM19]; exact mu_cell _ _ hq)
        have e96M19 : M19 96 = M 96 := (show M19 96 = M13 96 by rw [hM19]; exact mu_cell _ _ (by decide)).trans e96M13
        refine g_aload_n (pc' := 89) 2 dX9_evening_88 rfl rfl ?_
        refine g_iload_n (pc' := 90) 0 dX9_evening_89 rfl rfl ?_
        refine g_callVi (pc' := 93) (As := [vi z12]) (b := 0) (S := []) dX9_evening_90 rfl m_X9_79 w_X9_answered (c_X9_answered_x X M19 iM19 z12 ⟨by omega, by omega⟩) rfl ⟨_, _, _, rfl, rfl, rfl⟩ (by decide) (by decide) rfl (Nat.le_of_ble_eq_true rfl) (fun z21 M22 q20 => ?_)
        obtain ⟨iM22, fM220, eM22_2_5, eM22_1_2, eM22_1_4, eM22_1_6, eM22_11_5, eM22_10_2, eM22_10_4, eM22_10_6, eM22_20_5, eM22_19_2, eM22_19_4, eM22_19_6, eM22_29_0, eM22_29_1, eM22_31_1, eM22_0_11, eM22_0_12, eM22_0_13, pM22⟩ := q20
        have fM22 : Fr (fun c => (2 ≤ c ∧ c ≤ 6) ∨ (30 ≤ c ∧ c ≤ 59) ∨ c = 0 ∨ c = 96) M M22 := Fr.tr fM19 fM220 fi_15
        have q1_2_M22 : id (M22 1 2 = M 1 2) := eM22_1_2.trans q1_2_M19
        have q1_4_M22 : id (M22 1 4 = M 1 4) := eM22_1_4.trans q1_4_M19
        have q1_6_M22 : id (M22 1 6 = M 1 6) := eM22_1_6.trans q1_6_M19
        have q11_5_M22 : id (M22 11 5 = M 11 5) := eM22_11_5.trans q11_5_M19
        have q10_2_M22 : id (M22 10 2 = M 10 2) := eM22_10_2.trans q10_2_M19
        have q10_4_M22 : id (M22 10 4 = M 10 4) := eM22_10_4.trans q10_4_M19
        have q10_6_M22 : id (M22 10 6 = M 10 6) := eM22_10_6.trans q10_6_M19
        have q20_5_M22 : id (M22 20 5 = M 20 5) := eM22_20_5.trans q20_5_M19
        have q19_2_M22 : id (M22 19 2 = M 19 2) := eM22_19_2.trans q19_2_M19
        have q19_4_M22 : id (M22 19 4 = M 19 4) := eM22_19_4.trans q19_4_M19
        have q19_6_M22 : id (M22 19 6 = M 19 6) := eM22_19_6.trans q19_6_M19
        have q29_0_M22 : id (M22 29 0 = M 29 0) := eM22_29_0.trans q29_0_M19
        have q29_1_M22 : id (M22 29 1 = M 29 1) := eM22_29_1.trans q29_1_M19
        have q0_11_M22 : id (M22 0 11 = M 0 11) := eM22_0_11.trans q0_11_M19
        have wM22_0_12 : M22 0 12 = M19 0 12 := eM22_0_12
        have wM22_0_13 : M22 0 13 = M19 0 13 := eM22_0_13
        have wM22_31_1 : M22 31 1 = M19 31 1 := eM22_31_1
        have wM22_2_5 : M22 2 5 = M19 2 5 := eM22_2_5
        have xM22_0_12 : M22 0 12 = z6 := eM22_0_12.trans xM19_0_12
        have xM22_31_1 : M22 31 1 = 0 := eM22_31_1.trans xM19_31_1
        have xM22_0_13 : M22 0 13 = v18 := eM22_0_13.trans xM19_0_13
        clear eM22_1_2 eM22_1_4 eM22_1_6 eM22_11_5 eM22_10_2 eM22_10_4 eM22_10_6 eM22_20_5 eM22_19_2 eM22_19_4 eM22_19_6 eM22_29_0 eM22_29_1 eM22_0_11
        obtain ⟨anM22, asM22, a96M22⟩ := pM22
        rw [e96M19] at a96M22
        have faM22 := fM220
        refine g_ireturn dX9_evening_93 ?_
        exact ⟨iM22, fM22, q1_2_M22, q1_4_M22, q1_6_M22, q11_5_M22, q10_2_M22, q10_4_M22, q10_6_M22, q20_5_M22, q19_2_M22, q19_4_M22, q19_6_M22, q29_0_M22, q29_1_M22, q0_11_M22, by omega, by omega, ⟨K, W, M3 34, M3 35, m4_, tzM3, by rw [show M22 0 12 = z6 by omega]; exact fe, fun q => absurd q (by rw [j3]; show ¬ z2 = 0; omega), fun _ => ⟨NN, n2, by rw [show M22 0 13 = M13 53 4 by omega, anM22]; exact (rnM13 (by omega)).1, fun _ => PB.far (PB.far ((rnM13 (by omega)).2) fzM19 (fun c z => by unfold inT; first | omega | (dsimp only at z; omega))) faM22 (fun c z => by unfold inT; first | omega | (dsimp only at z; omega)), fun q => absurd q (by omega)⟩⟩, by rw [anM22]; exact asM22, by rw [anM22]; exact a96M22⟩
    · refine g_aload_n (pc' := 45) 1 dX9_evening_44 rfl rfl ?_
      refine g_bipush (pc' := 47) (v := (-6)) dX9_evening_45 rfl (by decide) ?_
      refine g_callVi (pc' := 50) (As := [vi (-6)]) (b := 0) (S := []) dX9_evening_47 rfl m_X9_79 w_X9_answered (c_X9_answered_x X M9 iM9 (-6) (by decide)) rfl ⟨_, _, _, rfl, rfl, rfl⟩ (by decide) (by decide) rfl (Nat.le_of_ble_eq_true rfl) (fun z24 M25 q23 => ?_)
      obtain ⟨iM25, fM250, eM25_2_5, eM25_1_2, eM25_1_4, eM25_1_6, eM25_11_5, eM25_10_2, eM25_10_4, eM25_10_6, eM25_20_5, eM25_19_2, eM25_19_4, eM25_19_6, eM25_29_0, eM25_29_1, eM25_31_1, eM25_0_11, eM25_0_12, eM25_0_13, pM25⟩ := q23
      have fM25 : Fr (fun c => (2 ≤ c ∧ c ≤ 6) ∨ (30 ≤ c ∧ c ≤ 59) ∨ c = 0 ∨ c = 96) M M25 := Fr.tr fM9 fM250 fi_15
      have q1_2_M25 : id (M25 1 2 = M 1 2) := eM25_1_2.trans q1_2_M9
      have q1_4_M25 : id (M25 1 4 = M 1 4) := eM25_1_4.trans q1_4_M9
      have q1_6_M25 : id (M25 1 6 = M 1 6) := eM25_1_6.trans q1_6_M9
      have q11_5_M25 : id (M25 11 5 = M 11 5) := eM25_11_5.trans q11_5_M9
      have q10_2_M25 : id (M25 10 2 = M 10 2) := eM25_10_2.trans q10_2_M9
      have q10_4_M25 : id (M25 10 4 = M 10 4) := eM25_10_4.trans q10_4_M9
      have q10_6_M25 : id (M25 10 6 = M 10 6) := eM25_10_6.trans q10_6_M9
      have q20_5_M25 : id (M25 20 5 = M 20 5) := eM25_20_5.trans q20_5_M9
      have q19_2_M25 : id (M25 19 2 = M 19 2) := eM25_19_2.trans q19_2_M9
      have q19_4_M25 : id (M25 19 4 = M 19 4) := eM25_19_4.trans q19_4_M9
      have q19_6_M25 : id (M25 19 6 = M 19 6) := eM25_19_6.trans q19_6_M9
      have q29_0_M25 : id (M25 29 0 = M 29 0) := eM25_29_0.trans q29_0_M9
      have q29_1_M25 : id (M25 29 1 = M 29 1) := eM25_29_1.trans q29_1_M9
      have q0_11_M25 : id (M25 0 11 = M 0 11) := eM25_0_11.trans q0_11_M9
      have q2_5_M25 : (M25 2 5 = M 2 5) := eM25_2_5.trans q2_5_M9
      have wM25_0_12 : M25 0 12 = M9 0 12 := eM25_0_12
      have wM25_0_13 : M25 0 13 = M9 0 13 := eM25_0_13
      have wM25_31_1 : M25 31 1 = M9 31 1 := eM25_31_1
      have wM25_2_5 : M25 2 5 = M9 2 5 := eM25_2_5
      have xM25_0_12 : M25 0 12 = z6 := eM25_0_12.trans xM9_0_12
      have xM25_31_1 : M25 31 1 = 0 := eM25_31_1.trans xM9_31_1
      have xM25_0_13 : M25 0 13 = (-1) := eM25_0_13.trans xM9_0_13
      clear eM25_1_2 eM25_1_4 eM25_1_6 eM25_11_5 eM25_10_2 eM25_10_4 eM25_10_6 eM25_20_5 eM25_19_2 eM25_19_4 eM25_19_6 eM25_29_0 eM25_29_1 eM25_0_11
      obtain ⟨anM25, asM25, a96M25⟩ := pM25
      rw [e96M9] at a96M25
      have faM25 := fM250
      refine g_ireturn dX9_evening_50 ?_
      exact ⟨iM25, fM25, q1_2_M25, q1_4_M25, q1_6_M25, q11_5_M25, q10_2_M25, q10_4_M25, q10_6_M25, q20_5_M25, q19_2_M25, q19_4_M25, q19_6_M25, q29_0_M25, q29_1_M25, q0_11_M25, by omega, by omega, ⟨K, W, M3 34, M3 35, m4_, tzM3, by rw [show M25 0 12 = z6 by omega]; exact fe, fun _ => ⟨by omega, by omega, PB.far (show PB _ 2 n m z from ⟨ta, tb, P, L, F, Z, ttM9, pub⟩) faM25 (fun c z => by unfold inT; first | omega | (dsimp only at z; omega))⟩, fun q => absurd q (by rw [j3]; show ¬ z2 = 1; omega)⟩, by rw [anM25]; exact asM25, by rw [anM25]; exact a96M25⟩
  · refine g_iconst (pc' := 14) dX9_evening_13 rfl ?_
    refine g_goto (tgt := 24) dX9_evening_14 rfl ?_
    refine g_putI (pc' := 27) dX9_evening_24 rfl p_X9_68 rfl rfl (by decide) (fun M26 hM26 => ?_)
    have iM26 : IC M26 := IC.wr iM3 hM26 (by unfold okw isT; first | decide | omega)
    have fM26 : Fr (fun c => (2 ≤ c ∧ c ≤ 6) ∨ (30 ≤ c ∧ c ≤ 59) ∨ c = 0 ∨ c = 96) M M26 := Fr.wr fM3 hM26 (by first | decide | omega | (dsimp only; omega))
    have q1_2_M26 : id (M26 1 2 = M 1 2) := (show M26 1 2 = M3 1 2 by rw [hM26]; exact mu_ne _ _ (by first | decide | omega)).trans q1_2_M3
    have q1_4_M26 : id (M26 1 4 = M 1 4) := (show M26 1 4 = M3 1 4 by rw [hM26]; exact mu_ne _ _ (by first | decide | omega)).trans q1_4_M3
    have q1_6_M26 : id (M26 1 6 = M 1 6) := (show M26 1 6 = M3 1 6 by rw [hM26]; exact mu_ne _ _ (by first | decide | omega)).trans q1_6_M3
    have q11_5_M26 : id (M26 11 5 = M 11 5) := (show M26 11 5 = M3 11 5 by rw [hM26]; exact mu_ne _ _ (by first | decide | omega)).trans q11_5_M3
    have q10_2_M26 : id (M26 10 2 = M 10 2) := (show M26 10 2 = M3 10 2 by rw [hM26]; exact mu_ne _ _ (by first | decide | omega)).trans q10_2_M3
    have q10_4_M26 : id (M26 10 4 = M 10 4) := (show M26 10 4 = M3 10 4 by rw [hM26]; exact mu_ne _ _ (by first | decide | omega)).trans q10_4_M3
    have q10_6_M26 : id (M26 10 6 = M 10 6) := (show M26 10 6 = M3 10 6 by rw [hM26]; exact mu_ne _ _ (by first | decide | omega)).trans q10_6_M3
    have q20_5_M26 : id (M26 20 5 = M 20 5) := (show M26 20 5 = M3 20 5 by rw [hM26]; exact mu_ne _ _ (by first | decide | omega)).trans q20_5_M3
    have q19_2_M26 : id (M26 19 2 = M 19 2) := (show M26 19 2 = M3 19 2 by rw [hM26]; exact mu_ne _ _ (by first | decide | omega)).trans q19_2_M3
    have q19_4_M26 : id (M26 19 4 = M 19 4) := (show M26 19 4 = M3 19 4 by rw [hM26]; exact mu_ne _ _ (by first | decide | omega)).trans q19_4_M3
    have q19_6_M26 : id (M26 19 6 = M 19 6) := (show M26 19 6 = M3 19 6 by rw [hM26]; exact mu_ne _ _ (by first | decide | omega)).trans q19_6_M3
    have q29_0_M26 : id (M26 29 0 = M 29 0) := (show M26 29 0 = M3 29 0 by rw [hM26]; exact mu_ne _ _ (by first | decide | omega)).trans q29_0_M3
    have q29_1_M26 : id (M26 29 1 = M 29 1) := (show M26 29 1 = M3 29 1 by rw [hM26]; exact mu_ne _ _ (by first | decide | omega)).trans q29_1_M3
    have q0_11_M26 : id (M26 0 11 = M 0 11) := (show M26 0 11 = M3 0 11 by rw [hM26]; exact mu_ne _ _ (by first | decide | omega)).trans q0_11_M3
    have q31_1_M26 : (M26 31 1 = M 31 1) := (show M26 31 1 = M3 31 1 by rw [hM26]; exact mu_ne _ _ (by first | decide | omega)).trans q31_1_M3
    have q2_5_M26 : (M26 2 5 = M 2 5) := (show M26 2 5 = M3 2 5 by rw [hM26]; exact mu_ne _ _ (by first | decide | omega)).trans q2_5_M3
    have q0_13_M26 : (M26 0 13 = M 0 13) := (show M26 0 13 = M3 0 13 by rw [hM26]; exact mu_ne _ _ (by first | decide | omega)).trans q0_13_M3
    have q0_10_M26 : (M26 0 10 = M 0 10) := (show M26 0 10 = M3 0 10 by rw [hM26]; exact mu_ne _ _ (by first | decide | omega)).trans q0_10_M3
    have wM26_0_10 : M26 0 10 = M3 0 10 := by rw [hM26]; exact mu_ne _ _ (by first | decide | omega)
    have wM26_0_13 : M26 0 13 = M3 0 13 := by rw [hM26]; exact mu_ne _ _ (by first | decide | omega)
    have wM26_31_1 : M26 31 1 = M3 31 1 := by rw [hM26]; exact mu_ne _ _ (by first | decide | omega)
    have wM26_2_5 : M26 2 5 = M3 2 5 := by rw [hM26]; exact mu_ne _ _ (by first | decide | omega)
    have xM26_0_12 : M26 0 12 = (-1) := by rw [hM26]; exact mu_at _ _ _ _
    have ttM26 := TV.far ttM3 (show Fr (fun c => c = 0) M3 M26 from fun q hq => by rw [hM26]; exact mu_cell _ _ hq) (fun c z => by unfold inT; first | omega | (dsimp only at z; omega))
    have e96M26 : M26 96 = M 96 := (show M26 96 = M3 96 by rw [hM26]; exact mu_cell _ _ (by decide)).trans e96M3
    have fe : EVQ (M3 34) (tXf K W 12 0 0) (-1) := Or.inl ⟨by rw [j3]; show z2 = 1; omega, rfl⟩
    have hwM26 : Fr (fun c => c = 0 ∨ c = 31) M3 M26 := Fr.wr Fr.rf hM26 (by omega)
    refine g_aload_n (pc' := 28) 1 dX9_evening_27 rfl rfl ?_
    refine g_getR (pc' := 31) dX9_evening_28 rfl f_X9_35 rfl rfl ?_
    refine g_iconst (pc' := 32) dX9_evening_31 rfl ?_
    refine g_putI (pc' := 35) dX9_evening_32 rfl p_X9_147 rfl rfl (by decide) (fun M27 hM27 => ?_)
    have iM27 : IC M27 := IC.wr iM26 hM27 (by unfold okw isT; first | decide | omega)
    have fM27 : Fr (fun c => (2 ≤ c ∧ c ≤ 6) ∨ (30 ≤ c ∧ c ≤ 59) ∨ c = 0 ∨ c = 96) M M27 := Fr.wr fM26 hM27 (by first | decide | omega | (dsimp only; omega))
    have q1_2_M27 : id (M27 1 2 = M 1 2) := (show M27 1 2 = M26 1 2 by rw [hM27]; exact mu_ne _ _ (by first | decide | omega)).trans q1_2_M26
    have q1_4_M27 : id (M27 1 4 = M 1 4) := (show M27 1 4 = M26 1 4 by rw [hM27]; exact mu_ne _ _ (by first | decide | omega)).trans q1_4_M26
    have q1_6_M27 : id (M27 1 6 = M 1 6) := (show M27 1 6 = M26 1 6 by rw [hM27]; exact mu_ne _ _ (by first | decide | omega)).trans q1_6_M26
    have q11_5_M27 : id (M27 11 5 = M 11 5) := (show M27 11 5 = M26 11 5 by rw [hM27]; exact mu_ne _ _ (by first | decide | omega)).trans q11_5_M26
    have q10_2_M27 : id (M27 10 2 = M 10 2) := (show M27 10 2 = M26 10 2 by rw [hM27]; exact mu_ne _ _ (by first | decide | omega)).trans q10_2_M26
    have q10_4_M27 : id (M27 10 4 = M 10 4) := (show M27 10 4 = M26 10 4 by rw [hM27]; exact mu_ne _ _ (by first | decide | omega)).trans q10_4_M26
    have q10_6_M27 : id (M27 10 6 = M 10 6) := (show M27 10 6 = M26 10 6 by rw [hM27]; exact mu_ne _ _ (by first | decide | omega)).trans q10_6_M26
    have q20_5_M27 : id (M27 20 5 = M 20 5) := (show M27 20 5 = M26 20 5 by rw [hM27]; exact mu_ne _ _ (by first | decide | omega)).trans q20_5_M26
    have q19_2_M27 : id (M27 19 2 = M 19 2) := (show M27 19 2 = M26 19 2 by rw [hM27]; exact mu_ne _ _ (by first | decide | omega)).trans q19_2_M26
    have q19_4_M27 : id (M27 19 4 = M 19 4) := (show M27 19 4 = M26 19 4 by rw [hM27]; exact mu_ne _ _ (by first | decide | omega)).trans q19_4_M26
    have q19_6_M27 : id (M27 19 6 = M 19 6) := (show M27 19 6 = M26 19 6 by rw [hM27]; exact mu_ne _ _ (by first | decide | omega)).trans q19_6_M26
    have q29_0_M27 : id (M27 29 0 = M 29 0) := (show M27 29 0 = M26 29 0 by rw [hM27]; exact mu_ne _ _ (by first | decide | omega)).trans q29_0_M26
    have q29_1_M27 : id (M27 29 1 = M 29 1) := (show M27 29 1 = M26 29 1 by rw [hM27]; exact mu_ne _ _ (by first | decide | omega)).trans q29_1_M26
    have q0_11_M27 : id (M27 0 11 = M 0 11) := (show M27 0 11 = M26 0 11 by rw [hM27]; exact mu_ne _ _ (by first | decide | omega)).trans q0_11_M26
    have q2_5_M27 : (M27 2 5 = M 2 5) := (show M27 2 5 = M26 2 5 by rw [hM27]; exact mu_ne _ _ (by first | decide | omega)).trans q2_5_M26
    have q0_13_M27 : (M27 0 13 = M 0 13) := (show M27 0 13 = M26 0 13 by rw [hM27]; exact mu_ne _ _ (by first | decide | omega)).trans q0_13_M26
    have q0_10_M27 : (M27 0 10 = M 0 10) := (show M27 0 10 = M26 0 10 by rw [hM27]; exact mu_ne _ _ (by first | decide | omega)).trans q0_10_M26
    have wM27_0_10 : M27 0 10 = M26 0 10 := by rw [hM27]; exact mu_ne _ _ (by first | decide | omega)
    have wM27_0_12 : M27 0 12 = M26 0 12 := by rw [hM27]; exact mu_ne _ _ (by first | decide | omega)
    have wM27_0_13 : M27 0 13 = M26 0 13 := by rw [hM27]; exact mu_ne _ _ (by first | decide | omega)
    have wM27_2_5 : M27 2 5 = M26 2 5 := by rw [hM27]; exact mu_ne _ _ (by first | decide | omega)
    have xM27_0_12 : M27 0 12 = (-1) := (show M27 0 12 = M26 0 12 by rw [hM27]; exact mu_ne _ _ (by first | decide | omega)).trans xM26_0_12
    have xM27_31_1 : M27 31 1 = 0 := by rw [hM27]; exact mu_at _ _ _ _
    have ttM27 := TV.far ttM26 (show Fr (fun c => c = 31) M26 M27 from fun q hq => by rw [hM27]; exact mu_cell _ _ hq) (fun c z => by unfold inT; first | omega | (dsimp only at z; omega))
    have e96M27 : M27 96 = M 96 := (show M27 96 = M26 96 by rw [hM27]; exact mu_cell _ _ (by decide)).trans e96M26
    have hwM27 : Fr (fun c => c = 0 ∨ c = 31) M3 M27 := Fr.wr hwM26 hM27 (by omega)
    refine g_aload_n (pc' := 36) 1 dX9_evening_35 rfl rfl ?_
    refine g_iconst (pc' := 37) dX9_evening_36 rfl ?_
    refine g_putI (pc' := 40) dX9_evening_37 rfl p_X9_72 rfl rfl (by decide) (fun M28 hM28 => ?_)
    have iM28 : IC M28 := IC.wr iM27 hM28 (by unfold okw isT; first | decide | omega)
    have fM28 : Fr (fun c => (2 ≤ c ∧ c ≤ 6) ∨ (30 ≤ c ∧ c ≤ 59) ∨ c = 0 ∨ c = 96) M M28 := Fr.wr fM27 hM28 (by first | decide | omega | (dsimp only; omega))
    have q1_2_M28 : id (M28 1 2 = M 1 2) := (show M28 1 2 = M27 1 2 by rw [hM28]; exact mu_ne _ _ (by first | decide | omega)).trans q1_2_M27
    have q1_4_M28 : id (M28 1 4 = M 1 4) := (show M28 1 4 = M27 1 4 by rw [hM28]; exact mu_ne _ _ (by first | decide | omega)).trans q1_4_M27
    have q1_6_M28 : id (M28 1 6 = M 1 6) := (show M28 1 6 = M27 1 6 by rw [hM28]; exact mu_ne _ _ (by first | decide | omega)).trans q1_6_M27
    have q11_5_M28 : id (M28 11 5 = M 11 5) := (show M28 11 5 = M27 11 5 by rw [hM28]; exact mu_ne _ _ (by first | decide | omega)).trans q11_5_M27
    have q10_2_M28 : id (M28 10 2 = M 10 2) := (show M28 10 2 = M27 10 2 by rw [hM28]; exact mu_ne _ _ (by first | decide | omega)).trans q10_2_M27
    have q10_4_M28 : id (M28 10 4 = M 10 4) := (show M28 10 4 = M27 10 4 by rw [hM28]; exact mu_ne _ _ (by first | decide | omega)).trans q10_4_M27
    have q10_6_M28 : id (M28 10 6 = M 10 6) := (show M28 10 6 = M27 10 6 by rw [hM28]; exact mu_ne _ _ (by first | decide | omega)).trans q10_6_M27
    have q20_5_M28 : id (M28 20 5 = M 20 5) := (show M28 20 5 = M27 20 5 by rw [hM28]; exact mu_ne _ _ (by first | decide | omega)).trans q20_5_M27
    have q19_2_M28 : id (M28 19 2 = M 19 2) := (show M28 19 2 = M27 19 2 by rw [hM28]; exact mu_ne _ _ (by first | decide | omega)).trans q19_2_M27
    have q19_4_M28 : id (M28 19 4 = M 19 4) := (show M28 19 4 = M27 19 4 by rw [hM28]; exact mu_ne _ _ (by first | decide | omega)).trans q19_4_M27
    have q19_6_M28 : id (M28 19 6 = M 19 6) := (show M28 19 6 = M27 19 6 by rw [hM28]; exact mu_ne _ _ (by first | decide | omega)).trans q19_6_M27
    have q29_0_M28 : id (M28 29 0 = M 29 0) := (show M28 29 0 = M27 29 0 by rw [hM28]; exact mu_ne _ _ (by first | decide | omega)).trans q29_0_M27
    have q29_1_M28 : id (M28 29 1 = M 29 1) := (show M28 29 1 = M27 29 1 by rw [hM28]; exact mu_ne _ _ (by first | decide | omega)).trans q29_1_M27
    have q0_11_M28 : id (M28 0 11 = M 0 11) := (show M28 0 11 = M27 0 11 by rw [hM28]; exact mu_ne _ _ (by first | decide | omega)).trans q0_11_M27
    have q2_5_M28 : (M28 2 5 = M 2 5) := (show M28 2 5 = M27 2 5 by rw [hM28]; exact mu_ne _ _ (by first | decide | omega)).trans q2_5_M27
    have q0_10_M28 : (M28 0 10 = M 0 10) := (show M28 0 10 = M27 0 10 by rw [hM28]; exact mu_ne _ _ (by first | decide | omega)).trans q0_10_M27
    have wM28_0_10 : M28 0 10 = M27 0 10 := by rw [hM28]; exact mu_ne _ _ (by first | decide | omega)
    have wM28_0_12 : M28 0 12 = M27 0 12 := by rw [hM28]; exact mu_ne _ _ (by first | decide | omega)
    have wM28_31_1 : M28 31 1 = M27 31 1 := by rw [hM28]; exact mu_ne _ _ (by first | decide | omega)
    have wM28_2_5 : M28 2 5 = M27 2 5 := by rw [hM28]; exact mu_ne _ _ (by first | decide | omega)
    have xM28_0_12 : M28 0 12 = (-1) := (show M28 0 12 = M27 0 12 by rw [hM28]; exact mu_ne _ _ (by first | decide | omega)).trans xM27_0_12
    have xM28_31_1 : M28 31 1 = 0 := (show M28 31 1 = M27 31 1 by rw [hM28]; exact mu_ne _ _ (by first | decide | omega)).trans xM27_31_1
    have xM28_0_13 : M28 0 13 = (-1) := by rw [hM28]; exact mu_at _ _ _ _
    have ttM28 := TV.far ttM27 (show Fr (fun c => c = 0) M27 M28 from fun q hq => by rw [hM28]; exact mu_cell _ _ hq) (fun c z => by unfold inT; first | omega | (dsimp only at z; omega))
    have e96M28 : M28 96 = M 96 := (show M28 96 = M27 96 by rw [hM28]; exact mu_cell _ _ (by decide)).trans e96M27
    have hwM28 : Fr (fun c => c = 0 ∨ c = 31) M3 M28 := Fr.wr hwM27 hM28 (by omega)
    refine g_iload_n (pc' := 41) 0 dX9_evening_40 rfl rfl ?_
    refine g_if_ne (pc' := 44) (tgt := 51) ⟨by omega, by omega⟩ dX9_evening_41 rfl rfl (fun c29 => ?_) (fun c29 => ?_)
    · obtain ⟨NN, n1, n2, tdd⟩ := jt (by omega)
      have nb := n2.1
      have fw : Fr (fun c => c = 0 ∨ c = 31) M3 M28 := hwM28
      have fwn := congrFun (fw 37 (by decide)) 1
      refine g_aload_n (pc' := 52) 1 dX9_evening_51 rfl rfl ?_
      refine g_getR (pc' := 55) dX9_evening_52 rfl f_X9_39 rfl rfl ?_
      refine g_aload_n (pc' := 56) 1 dX9_evening_55 rfl rfl ?_
      refine g_getR (pc' := 59) dX9_evening_56 rfl f_X9_27 rfl rfl ?_
      refine g_getR (pc' := 62) dX9_evening_59 rfl f_X9_172 rfl rfl ?_
      refine g_aload_n (pc' := 63) 1 dX9_evening_62 rfl rfl ?_
      refine g_getR (pc' := 66) dX9_evening_63 rfl f_X9_12 rfl rfl ?_
      refine g_getR (pc' := 69) dX9_evening_66 rfl f_X9_86 rfl rfl ?_
      refine g_callVi (pc' := 72) (As := [vr X 37, vr X 2]) (b := 53) (S := []) dX9_evening_69 rfl m_X9_176 w_X3_run (c_X3_run_y X M28 iM28 ta tb n P L F Z m z ttM28 pub hz6 K W NN (by omega) (tdd.nx (CDS.eq ((congrFun (fw 37 (by decide)) 4)) (fw 39 (by omega)) (fw 40 (by omega))) (fun k hk => (fw (41 + k) (by omega))))) rfl ⟨_, _, _, rfl, rfl, rfl⟩ (by decide) (by decide) rfl (Nat.le_of_ble_eq_true rfl) (fun z31 M32 q30 => ?_)
      obtain ⟨iM32, fM320, pM32⟩ := q30
      have fM32 : Fr (fun c => (2 ≤ c ∧ c ≤ 6) ∨ (30 ≤ c ∧ c ≤ 59) ∨ c = 0 ∨ c = 96) M M32 := Fr.tr fM28 fM320 fi_14
      have q1_2_M32 : id (M32 1 2 = M 1 2) := (congrFun (fM320 1 (by first | decide | omega | (dsimp only; omega))) 2).trans q1_2_M28
      have q1_4_M32 : id (M32 1 4 = M 1 4) := (congrFun (fM320 1 (by first | decide | omega | (dsimp only; omega))) 4).trans q1_4_M28
      have q1_6_M32 : id (M32 1 6 = M 1 6) := (congrFun (fM320 1 (by first | decide | omega | (dsimp only; omega))) 6).trans q1_6_M28
      have q11_5_M32 : id (M32 11 5 = M 11 5) := (congrFun (fM320 11 (by first | decide | omega | (dsimp only; omega))) 5).trans q11_5_M28
      have q10_2_M32 : id (M32 10 2 = M 10 2) := (congrFun (fM320 10 (by first | decide | omega | (dsimp only; omega))) 2).trans q10_2_M28
      have q10_4_M32 : id (M32 10 4 = M 10 4) := (congrFun (fM320 10 (by first | decide | omega | (dsimp only; omega))) 4).trans q10_4_M28
      have q10_6_M32 : id (M32 10 6 = M 10 6) := (congrFun (fM320 10 (by first | decide | omega | (dsimp only; omega))) 6).trans q10_6_M28
      have q20_5_M32 : id (M32 20 5 = M 20 5) := (congrFun (fM320 20 (by first | decide | omega | (dsimp only; omega))) 5).trans q20_5_M28
      have q19_2_M32 : id (M32 19 2 = M 19 2) := (congrFun (fM320 19 (by first | decide | omega | (dsimp only; omega))) 2).trans q19_2_M28
      have q19_4_M32 : id (M32 19 4 = M 19 4) := (congrFun (fM320 19 (by first | decide | omega | (dsimp only; omega))) 4).trans q19_4_M28
      have q19_6_M32 : id (M32 19 6 = M 19 6) := (congrFun (fM320 19 (by first | decide | omega | (dsimp only; omega))) 6).trans q19_6_M28
      have q29_0_M32 : id (M32 29 0 = M 29 0) := (congrFun (fM320 29 (by first | decide | omega | (dsimp only; omega))) 0).trans q29_0_M28
      have q29_1_M32 : id (M32 29 1 = M 29 1) := (congrFun (fM320 29 (by first | decide | omega | (dsimp only; omega))) 1).trans q29_1_M28
      have q0_11_M32 : id (M32 0 11 = M 0 11) := (congrFun (fM320 0 (by first | decide | omega | (dsimp only; omega))) 11).trans q0_11_M28
      have q0_10_M32 : (M32 0 10 = M 0 10) := (congrFun (fM320 0 (by first | decide | omega | (dsimp only; omega))) 10).trans q0_10_M28
      have wM32_0_10 : M32 0 10 = M28 0 10 := (congrFun (fM320 0 (by first | decide | omega | (dsimp only; omega))) 10)
      have wM32_0_12 : M32 0 12 = M28 0 12 := (congrFun (fM320 0 (by first | decide | omega | (dsimp only; omega))) 12)
      have wM32_0_13 : M32 0 13 = M28 0 13 := (congrFun (fM320 0 (by first | decide | omega | (dsimp only; omega))) 13)
      have wM32_31_1 : M32 31 1 = M28 31 1 := (congrFun (fM320 31 (by first | decide | omega | (dsimp only; omega))) 1)
      have xM32_0_12 : M32 0 12 = (-1) := (congrFun (fM320 0 (by first | decide | omega | (dsimp only; omega))) 12).trans xM28_0_12
      have xM32_31_1 : M32 31 1 = 0 := (congrFun (fM320 31 (by first | decide | omega | (dsimp only; omega))) 1).trans xM28_31_1
      have xM32_0_13 : M32 0 13 = (-1) := (congrFun (fM320 0 (by first | decide | omega | (dsimp only; omega))) 13).trans xM28_0_13
      obtain ⟨ruM32, rnM32, rpM32⟩ := pM32
      have e96M32 := (fM320 96 (by first | decide | omega | (dsimp only; omega))).trans e96M28
      refine g_istore_n (pc' := 73) (i := 2) (L' := [(2, vi z31), (1, vi z2), (0, vr X 0)]) dX9_evening_72 rfl rfl (by decide) rfl ?_
      refine g_iload_n (pc' := 74) 0 dX9_evening_73 rfl rfl ?_
      refine g_if_ge (pc' := 77) (tgt := 88) ⟨by omega, by omega⟩ dX9_evening_74 rfl rfl (fun c33 => ?_) (fun c33 => ?_)
      · refine g_aload_n (pc' := 89) 2 dX9_evening_88 rfl rfl ?_
        refine g_iload_n (pc' := 90) 0 dX9_evening_89 rfl rfl ?_
        refine g_callVi (pc' := 93) (As := [vi z31]) (b := 0) (S := []) dX9_evening_90 rfl m_X9_79 w_X9_answered (c_X9_answered_x X M32 iM32 z31 ⟨by omega, by omega⟩) rfl ⟨_, _, _, rfl, rfl, rfl⟩ (by decide) (by decide) rfl (Nat.le_of_ble_eq_true rfl) (fun z35 M36 q34 => ?_)
        obtain ⟨iM36, fM360, eM36_2_5, eM36_1_2, eM36_1_4, eM36_1_6, eM36_11_5, eM36_10_2, eM36_10_4, eM36_10_6, eM36_20_5, eM36_19_2, eM36_19_4, eM36_19_6, eM36_29_0, eM36_29_1, eM36_31_1, eM36_0_11, eM36_0_12, eM36_0_13, pM36⟩ := q34
        have fM36 : Fr (fun c => (2 ≤ c ∧ c ≤ 6) ∨ (30 ≤ c ∧ c ≤ 59) ∨ c = 0 ∨ c = 96) M M36 := Fr.tr fM32 fM360 fi_15
        have q1_2_M36 : id (M36 1 2 = M 1 2) := eM36_1_2.trans q1_2_M32
        have q1_4_M36 : id (M36 1 4 = M 1 4) := eM36_1_4.trans q1_4_M32
        have q1_6_M36 : id (M36 1 6 = M 1 6) := eM36_1_6.trans q1_6_M32
        have q11_5_M36 : id (M36 11 5 = M 11 5) := eM36_11_5.trans q11_5_M32
        have q10_2_M36 : id (M36 10 2 = M 10 2) := eM36_10_2.trans q10_2_M32
        have q10_4_M36 : id (M36 10 4 = M 10 4) := eM36_10_4.trans q10_4_M32
        have q10_6_M36 : id (M36 10 6 = M 10 6) := eM36_10_6.trans q10_6_M32
        have q20_5_M36 : id (M36 20 5 = M 20 5) := eM36_20_5.trans q20_5_M32
        have q19_2_M36 : id (M36 19 2 = M 19 2) := eM36_19_2.trans q19_2_M32
        have q19_4_M36 : id (M36 19 4 = M 19 4) := eM36_19_4.trans q19_4_M32
        have q19_6_M36 : id (M36 19 6 = M 19 6) := eM36_19_6.trans q19_6_M32
        have q29_0_M36 : id (M36 29 0 = M 29 0) := eM36_29_0.trans q29_0_M32
        have q29_1_M36 : id (M36 29 1 = M 29 1) := eM36_29_1.trans q29_1_M32
        have q0_11_M36 : id (M36 0 11 = M 0 11) := eM36_0_11.trans q0_11_M32
        have wM36_0_12 : M36 0 12 = M32 0 12 := eM36_0_12
        have wM36_0_13 : M36 0 13 = M32 0 13 := eM36_0_13
        have wM36_31_1 : M36 31 1 = M32 31 1 := eM36_31_1
        have wM36_2_5 : M36 2 5 = M32 2 5 := eM36_2_5
        have xM36_0_12 : M36 0 12 = (-1) := eM36_0_12.trans xM32_0_12
        have xM36_31_1 : M36 31 1 = 0 := eM36_31_1.trans xM32_31_1
        have xM36_0_13 : M36 0 13 = (-1) := eM36_0_13.trans xM32_0_13
        clear eM36_1_2 eM36_1_4 eM36_1_6 eM36_11_5 eM36_10_2 eM36_10_4 eM36_10_6 eM36_20_5 eM36_19_2 eM36_19_4 eM36_19_6 eM36_29_0 eM36_29_1 eM36_0_11
        obtain ⟨anM36, asM36, a96M36⟩ := pM36
        rw [e96M32] at a96M36
        have faM36 := fM360
        refine g_ireturn dX9_evening_93 ?_
        exact ⟨iM36, fM36, q1_2_M36, q1_4_M36, q1_6_M36, q11_5_M36, q10_2_M36, q10_4_M36, q10_6_M36, q20_5_M36, q19_2_M36, q19_4_M36, q19_6_M36, q29_0_M36, q29_1_M36, q0_11_M36, by omega, by omega, ⟨K, W, M3 34, M3 35, m4_, tzM3, by rw [show M36 0 12 = (-1) by omega]; exact fe, fun q => absurd q (by rw [j3]; show ¬ z2 = 0; omega), fun _ => ⟨NN, n2, by rw [show M36 0 13 = -1 by omega, anM36]; exact (rpM32 (by omega)).1, fun q => absurd q (by omega), fun _ => PB.far ((rpM32 (by omega)).2) faM36 (fun c z => by unfold inT; first | omega | (dsimp only at z; omega))⟩⟩, by rw [anM36]; exact asM36, by rw [anM36]; exact a96M36⟩
      · refine g_aload_n (pc' := 78) 2 dX9_evening_77 rfl rfl ?_
        refine g_aload_n (pc' := 79) 2 dX9_evening_78 rfl rfl ?_
        refine g_getR (pc' := 82) dX9_evening_79 rfl f_X9_39 rfl rfl ?_
        refine g_getI (pc' := 85) dX9_evening_82 rfl f_X9_180 rfl rfl (fun v37 ev37 rv37 => ?_)
        refine g_putI (pc' := 88) dX9_evening_85 rfl p_X9_72 rfl rfl rv37 (fun M38 hM38 => ?_)
        have iM38 : IC M38 := IC.wr iM32 hM38 (by unfold okw isT; first | decide | omega)
        have fM38 : Fr (fun c => (2 ≤ c ∧ c ≤ 6) ∨ (30 ≤ c ∧ c ≤ 59) ∨ c = 0 ∨ c = 96) M M38 := Fr.wr fM32 hM38 (by first | decide | omega | (dsimp only; omega))
        have q1_2_M38 : id (M38 1 2 = M 1 2) := (show M38 1 2 = M32 1 2 by rw [hM38]; exact mu_ne _ _ (by first | decide | omega)).trans q1_2_M32
        have q1_4_M38 : id (M38 1 4 = M 1 4) := (show M38 1 4 = M32 1 4 by rw [hM38]; exact mu_ne _ _ (by first | decide | omega)).trans q1_4_M32
        have q1_6_M38 : id (M38 1 6 = M 1 6) := (show M38 1 6 = M32 1 6 by rw [hM38]; exact mu_ne _ _ (by first | decide | omega)).trans q1_6_M32
        have q11_5_M38 : id (M38 11 5 = M 11 5) := (show M38 11 5 = M32 11 5 by rw [hM38]; exact mu_ne _ _ (by first | decide | omega)).trans q11_5_M32
        have q10_2_M38 : id (M38 10 2 = M 10 2) := (show M38 10 2 = M32 10 2 by rw [hM38]; exact mu_ne _ _ (by first | decide | omega)).trans q10_2_M32
        have q10_4_M38 : id (M38 10 4 = M 10 4) := (show M38 10 4 = M32 10 4 by rw [hM38]; exact mu_ne _ _ (by first | decide | omega)).trans q10_4_M32
        have q10_6_M38 : id (M38 10 6 = M 10 6) := (show M38 10 6 = M32 10 6 by rw [hM38]; exact mu_ne _ _ (by first | decide | omega)).trans q10_6_M32
        have q20_5_M38 : id (M38 20 5 = M 20 5) := (show M38 20 5 = M32 20 5 by rw [hM38]; exact mu_ne _ _ (by first | decide | omega)).trans q20_5_M32
        have q19_2_M38 : id (M38 19 2 = M 19 2) := (show M38 19 2 = M32 19 2 by rw [hM38]; exact mu_ne _ _ (by first | decide | omega)).trans q19_2_M32
        have q19_4_M38 : id (M38 19 4 = M 19 4) := (show M38 19 4 = M32 19 4 by rw [hM38]; exact mu_ne _ _ (by first | decide | omega)).trans q19_4_M32
        have q19_6_M38 : id (M38 19 6 = M 19 6) := (show M38 19 6 = M32 19 6 by rw [hM38]; exact mu_ne _ _ (by first | decide | omega)).trans q19_6_M32
        have q29_0_M38 : id (M38 29 0 = M 29 0) := (show M38 29 0 = M32 29 0 by rw [hM38]; exact mu_ne _ _ (by first | decide | omega)).trans q29_0_M32
        have q29_1_M38 : id (M38 29 1 = M 29 1) := (show M38 29 1 = M32 29 1 by rw [hM38]; exact mu_ne _ _ (by first | decide | omega)).trans q29_1_M32
        have q0_11_M38 : id (M38 0 11 = M 0 11) := (show M38 0 11 = M32 0 11 by rw [hM38]; exact mu_ne _ _ (by first | decide | omega)).trans q0_11_M32
        have q0_10_M38 : (M38 0 10 = M 0 10) := (show M38 0 10 = M32 0 10 by rw [hM38]; exact mu_ne _ _ (by first | decide | omega)).trans q0_10_M32
        have wM38_0_10 : M38 0 10 = M32 0 10 := by rw [hM38]; exact mu_ne _ _ (by first | decide | omega)
        have wM38_0_12 : M38 0 12 = M32 0 12 := by rw [hM38]; exact mu_ne _ _ (by first | decide | omega)
        have wM38_31_1 : M38 31 1 = M32 31 1 := by rw [hM38]; exact mu_ne _ _ (by first | decide | omega)
        have wM38_2_5 : M38 2 5 = M32 2 5 := by rw [hM38]; exact mu_ne _ _ (by first | decide | omega)
        have xM38_0_12 : M38 0 12 = (-1) := (show M38 0 12 = M32 0 12 by rw [hM38]; exact mu_ne _ _ (by first | decide | omega)).trans xM32_0_12
        have xM38_31_1 : M38 31 1 = 0 := (show M38 31 1 = M32 31 1 by rw [hM38]; exact mu_ne _ _ (by first | decide | omega)).trans xM32_31_1
        have xM38_0_13 : M38 0 13 = v37 := by rw [hM38]; exact mu_at _ _ _ _
        
        have fzM38 := (show Fr (fun c => c = 0) M32 M38 from fun q hq => by rw [hM38]; exact mu_cell _ _ hq)
        have e96M38 : M38 96 = M 96 := (show M38 96 = M32 96 by rw [hM38]; exact mu_cell _ _ (by decide)).trans e96M32
        refine g_aload_n (pc' := 89) 2 dX9_evening_88 rfl rfl ?_
        refine g_iload_n (pc' := 90) 0 dX9_evening_89 rfl rfl ?_
        refine g_callVi (pc' := 93) (As := [vi z31]) (b := 0) (S := []) dX9_evening_90 rfl m_X9_79 w_X9_answered (c_X9_answered_x X M38 iM38 z31 ⟨by omega, by omega⟩) rfl ⟨_, _, _, rfl, rfl, rfl⟩ (by decide) (by decide) rfl (Nat.le_of_ble_eq_true rfl) (fun z40 M41 q39 => ?_)
        obtain ⟨iM41, fM410, eM41_2_5, eM41_1_2, eM41_1_4, eM41_1_6, eM41_11_5, eM41_10_2, eM41_10_4, eM41_10_6, eM41_20_5, eM41_19_2, eM41_19_4, eM41_19_6, eM41_29_0, eM41_29_1, eM41_31_1, eM41_0_11, eM41_0_12, eM41_0_13, pM41⟩ := q39
        have fM41 : Fr (fun c => (2 ≤ c ∧ c ≤ 6) ∨ (30 ≤ c ∧ c ≤ 59) ∨ c = 0 ∨ c = 96) M M41 := Fr.tr fM38 fM410 fi_15
        have q1_2_M41 : id (M41 1 2 = M 1 2) := eM41_1_2.trans q1_2_M38
        have q1_4_M41 : id (M41 1 4 = M 1 4) := eM41_1_4.trans q1_4_M38
        have q1_6_M41 : id (M41 1 6 = M 1 6) := eM41_1_6.trans q1_6_M38
        have q11_5_M41 : id (M41 11 5 = M 11 5) := eM41_11_5.trans q11_5_M38
        have q10_2_M41 : id (M41 10 2 = M 10 2) := eM41_10_2.trans q10_2_M38
        have q10_4_M41 : id (M41 10 4 = M 10 4) := eM41_10_4.trans q10_4_M38
        have q10_6_M41 : id (M41 10 6 = M 10 6) := eM41_10_6.trans q10_6_M38
        have q20_5_M41 : id (M41 20 5 = M 20 5) := eM41_20_5.trans q20_5_M38
        have q19_2_M41 : id (M41 19 2 = M 19 2) := eM41_19_2.trans q19_2_M38
        have q19_4_M41 : id (M41 19 4 = M 19 4) := eM41_19_4.trans q19_4_M38
        have q19_6_M41 : id (M41 19 6 = M 19 6) := eM41_19_6.trans q19_6_M38
        have q29_0_M41 : id (M41 29 0 = M 29 0) := eM41_29_0.trans q29_0_M38
        have q29_1_M41 : id (M41 29 1 = M 29 1) := eM41_29_1.trans q29_1_M38
        have q0_11_M41 : id (M41 0 11 = M 0 11) := eM41_0_11.trans q0_11_M38
        have wM41_0_12 : M41 0 12 = M38 0 12 := eM41_0_12
        have wM41_0_13 : M41 0 13 = M38 0 13 := eM41_0_13
        have wM41_31_1 : M41 31 1 = M38 31 1 := eM41_31_1
        have wM41_2_5 : M41 2 5 = M38 2 5 := eM41_2_5
        have xM41_0_12 : M41 0 12 = (-1) := eM41_0_12.trans xM38_0_12
        have xM41_31_1 : M41 31 1 = 0 := eM41_31_1.trans xM38_31_1
        have xM41_0_13 : M41 0 13 = v37 := eM41_0_13.trans xM38_0_13
        clear eM41_1_2 eM41_1_4 eM41_1_6 eM41_11_5 eM41_10_2 eM41_10_4 eM41_10_6 eM41_20_5 eM41_19_2 eM41_19_4 eM41_19_6 eM41_29_0 eM41_29_1 eM41_0_11
        obtain ⟨anM41, asM41, a96M41⟩ := pM41
        rw [e96M38] at a96M41
        have faM41 := fM410
        refine g_ireturn dX9_evening_93 ?_
        exact ⟨iM41, fM41, q1_2_M41, q1_4_M41, q1_6_M41, q11_5_M41, q10_2_M41, q10_4_M41, q10_6_M41, q20_5_M41, q19_2_M41, q19_4_M41, q19_6_M41, q29_0_M41, q29_1_M41, q0_11_M41, by omega, by omega, ⟨K, W, M3 34, M3 35, m4_, tzM3, by rw [show M41 0 12 = (-1) by omega]; exact fe, fun q => absurd q (by rw [j3]; show ¬ z2 = 0; omega), fun _ => ⟨NN, n2, by rw [show M41 0 13 = M32 53 4 by omega, anM41]; exact (rnM32 (by omega)).1, fun _ => PB.far (PB.far ((rnM32 (by omega)).2) fzM38 (fun c z => by unfold inT; first | omega | (dsimp only at z; omega))) faM41 (fun c z => by unfold inT; first | omega | (dsimp only at z; omega)), fun q => absurd q (by omega)⟩⟩, by rw [anM41]; exact asM41, by rw [anM41]; exact a96M41⟩
    · refine g_aload_n (pc' := 45) 1 dX9_evening_44 rfl rfl ?_
      refine g_bipush (pc' := 47) (v := (-6)) dX9_evening_45 rfl (by decide) ?_
      refine g_callVi (pc' := 50) (As := [vi (-6)]) (b := 0) (S := []) dX9_evening_47 rfl m_X9_79 w_X9_answered (c_X9_answered_x X M28 iM28 (-6) (by decide)) rfl ⟨_, _, _, rfl, rfl, rfl⟩ (by decide) (by decide) rfl (Nat.le_of_ble_eq_true rfl) (fun z43 M44 q42 => ?_)
      obtain ⟨iM44, fM440, eM44_2_5, eM44_1_2, eM44_1_4, eM44_1_6, eM44_11_5, eM44_10_2, eM44_10_4, eM44_10_6, eM44_20_5, eM44_19_2, eM44_19_4, eM44_19_6, eM44_29_0, eM44_29_1, eM44_31_1, eM44_0_11, eM44_0_12, eM44_0_13, pM44⟩ := q42
      have fM44 : Fr (fun c => (2 ≤ c ∧ c ≤ 6) ∨ (30 ≤ c ∧ c ≤ 59) ∨ c = 0 ∨ c = 96) M M44 := Fr.tr fM28 fM440 fi_15
      have q1_2_M44 : id (M44 1 2 = M 1 2) := eM44_1_2.trans q1_2_M28
      have q1_4_M44 : id (M44 1 4 = M 1 4) := eM44_1_4.trans q1_4_M28
      have q1_6_M44 : id (M44 1 6 = M 1 6) := eM44_1_6.trans q1_6_M28
      have q11_5_M44 : id (M44 11 5 = M 11 5) := eM44_11_5.trans q11_5_M28
      have q10_2_M44 : id (M44 10 2 = M 10 2) := eM44_10_2.trans q10_2_M28
      have q10_4_M44 : id (M44 10 4 = M 10 4) := eM44_10_4.trans q10_4_M28
      have q10_6_M44 : id (M44 10 6 = M 10 6) := eM44_10_6.trans q10_6_M28
      have q20_5_M44 : id (M44 20 5 = M 20 5) := eM44_20_5.trans q20_5_M28
      have q19_2_M44 : id (M44 19 2 = M 19 2) := eM44_19_2.trans q19_2_M28
      have q19_4_M44 : id (M44 19 4 = M 19 4) := eM44_19_4.trans q19_4_M28
      have q19_6_M44 : id (M44 19 6 = M 19 6) := eM44_19_6.trans q19_6_M28
      have q29_0_M44 : id (M44 29 0 = M 29 0) := eM44_29_0.trans q29_0_M28
      have q29_1_M44 : id (M44 29 1 = M 29 1) := eM44_29_1.trans q29_1_M28
      have q0_11_M44 : id (M44 0 11 = M 0 11) := eM44_0_11.trans q0_11_M28
      have q2_5_M44 : (M44 2 5 = M 2 5) := eM44_2_5.trans q2_5_M28
      have wM44_0_12 : M44 0 12 = M28 0 12 := eM44_0_12
      have wM44_0_13 : M44 0 13 = M28 0 13 := eM44_0_13
      have wM44_31_1 : M44 31 1 = M28 31 1 := eM44_31_1
      have wM44_2_5 : M44 2 5 = M28 2 5 := eM44_2_5
      have xM44_0_12 : M44 0 12 = (-1) := eM44_0_12.trans xM28_0_12
      have xM44_31_1 : M44 31 1 = 0 := eM44_31_1.trans xM28_31_1
      have xM44_0_13 : M44 0 13 = (-1) := eM44_0_13.trans xM28_0_13
      clear eM44_1_2 eM44_1_4 eM44_1_6 eM44_11_5 eM44_10_2 eM44_10_4 eM44_10_6 eM44_20_5 eM44_19_2 eM44_19_4 eM44_19_6 eM44_29_0 eM44_29_1 eM44_0_11
      obtain ⟨anM44, asM44, a96M44⟩ := pM44
      rw [e96M28] at a96M44
      have faM44 := fM440
      refine g_ireturn dX9_evening_50 ?_
      exact ⟨iM44, fM44, q1_2_M44, q1_4_M44, q1_6_M44, q11_5_M44, q10_2_M44, q10_4_M44, q10_6_M44, q20_5_M44, q19_2_M44, q19_4_M44, q19_6_M44, q29_0_M44, q29_1_M44, q0_11_M44, by omega, by omega, ⟨K, W, M3 34, M3 35, m4_, tzM3, by rw [show M44 0 12 = (-1) by omega]; exact fe, fun _ => ⟨by omega, by omega, PB.far (show PB _ 2 n m z from ⟨ta, tb, P, L, F, Z, ttM28, pub⟩) faM44 (fun c z => by unfold inT; first | omega | (dsimp only at z; omega))⟩, fun q => absurd q (by rw [j3]; show ¬ z2 = 1; omega)⟩, by rw [anM44]; exact asM44, by rw [anM44]; exact a96M44⟩
