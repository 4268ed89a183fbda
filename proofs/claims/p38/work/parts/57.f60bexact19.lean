set_option maxHeartbeats 4000000 in
set_option maxRecDepth 100000 in
theorem l_X9_fillRow_x_39 (X : Cx) (M : Mm) (hi : IC M) (ta tb : Nat) (n : Int) (P : Nat → Int) (L : Int) (F Z m z : Nat → Int) (tv : TV M 2 ta tb n P L F Z) (pub : PUB n P L F Z m z) : ∀ (kk : Nat) (f : Int) (i : Int) (M1 : Mm) (ic1 : IC M1) (fr1 : Fr (fun c => c = 0 ∨ (2 ≤ c ∧ c ≤ 6)) M M1) (q2_5 : id (M1 2 5 = M 2 5)) (q1_2 : id (M1 1 2 = M 1 2)) (q1_4 : id (M1 1 4 = M 1 4)) (q1_6 : id (M1 1 6 = M 1 6)) (q11_5 : id (M1 11 5 = M 11 5)) (q10_2 : id (M1 10 2 = M 10 2)) (q10_4 : id (M1 10 4 = M 10 4)) (q10_6 : id (M1 10 6 = M 10 6)) (q20_5 : id (M1 20 5 = M 20 5)) (q19_2 : id (M1 19 2 = M 19 2)) (q19_4 : id (M1 19 4 = M 19 4)) (q19_6 : id (M1 19 6 = M 19 6)) (q29_0 : id (M1 29 0 = M 29 0)) (q29_1 : id (M1 29 1 = M 29 1)) (q31_1 : id (M1 31 1 = M 31 1)) (q0_12 : id (M1 0 12 = M 0 12)) (q0_13 : id (M1 0 13 = M 0 13)) (q0_10 : id (M1 0 10 = M 0 10)) (q0_11 : (M1 0 11 = M 0 11)) (h0 : 1 ≤ i) (h1 : i ≤ 400 ∧ i ≤ M 31 1) (hgl : 0 ≤ M 32 0 ∧ M 32 0 < n) (P1 : Nat → Int) (F1 : Nat → Int) (tv1 : TV M1 2 ta tb n P1 L F1 Z) (pb1 : PUB n P1 L F1 Z (rwM z (M 32) (M 32 0) m (i - 1).toNat) z) (hf : f = rwC z (M 32) (M 32 0) m (i - 1).toNat), (401 - i).toNat = kk → G X 3 RX9 cX9_fillRow 3 (some .int) (Qi (fun r M1 => IC M1 ∧ Fr (fun c => c = 0 ∨ (2 ≤ c ∧ c ≤ 6)) M M1 ∧ M1 2 5 = M 2 5 ∧ M1 1 2 = M 1 2 ∧ M1 1 4 = M 1 4 ∧ M1 1 6 = M 1 6 ∧ M1 11 5 = M 11 5 ∧ M1 10 2 = M 10 2 ∧ M1 10 4 = M 10 4 ∧ M1 10 6 = M 10 6 ∧ M1 20 5 = M 20 5 ∧ M1 19 2 = M 19 2 ∧ M1 19 4 = M 19 4 ∧ M1 19 6 = M 19 6 ∧ M1 29 0 = M 29 0 ∧ M1 29 1 = M 29 1 ∧ M1 31 1 = M 31 1 ∧ M1 0 12 = M 0 12 ∧ M1 0 13 = M 0 13 ∧ M1 0 10 = M 0 10 ∧ ((-6 ≤ r ∧ r ≤ 400) ∧ ∃ m1 : Nat → Int, RWQ n z (M 32) m (M 31 1) (M 0 11) r (M1 0 11) m1 ∧ PB M1 2 n m1 z))) 39 [(1, vi f), (2, vi i), (0, vr X 0)] [] M1 := by
  intro kk
  induction kk using Nat.strongRecOn with
  | ind kk ih =>
    intro f i M1 ic1 fr1 q2_5 q1_2 q1_4 q1_6 q11_5 q10_2 q10_4 q10_6 q20_5 q19_2 q19_4 q19_6 q29_0 q29_1 q31_1 q0_12 q0_13 q0_10 q0_11 h0 h1 hgl P1 F1 tv1 pb1 hf hmes
    have tn := tv.2.2.1
    have ctn := pub.1.1
    have h311 := hi.2.2.1.1
    have tn1 := tv1.2.2.1
    have fb := rwC_b (z := z) (T := M 32) (g := M 32 0) (m := m) (i - 1).toNat
    refine g_iload_n (pc' := 40) 1 dX9_fillRow_39 rfl rfl ?_
    refine g_aload_n (pc' := 41) 2 dX9_fillRow_40 rfl rfl ?_
    refine g_getR (pc' := 44) dX9_fillRow_41 rfl f_X9_35 rfl rfl ?_
    refine g_getI (pc' := 47) dX9_fillRow_44 rfl f_X9_147 rfl rfl (fun v1 ev1 rv1 => ?_)
    have bv1 : 0 ≤ v1 ∧ v1 ≤ 400 := by rw [ev1]; exact ic1.2.2.1.1
    have av1 : v1 = M 31 1 := ev1.trans q31_1
    refine g_ic_ge (pc' := 50) (tgt := 93) ⟨by omega, by omega⟩ rv1 dX9_fillRow_47 rfl rfl (fun c2 => ?_) (fun c2 => ?_)
    · refine g_aload_n (pc' := 94) 2 dX9_fillRow_93 rfl rfl ?_
      refine g_aload_n (pc' := 95) 2 dX9_fillRow_94 rfl rfl ?_
      refine g_getR (pc' := 98) dX9_fillRow_95 rfl f_X9_35 rfl rfl ?_
      refine g_getI (pc' := 101) dX9_fillRow_98 rfl f_X9_147 rfl rfl (fun v3 ev3 rv3 => ?_)
      obtain rfl : v1 = v3 := ev1.trans ev3.symm
      refine g_iconst (pc' := 102) dX9_fillRow_101 rfl ?_
      refine g_isub (pc' := 103) dX9_fillRow_102 rfl ?_
      refine g_iload_n (pc' := 104) 0 dX9_fillRow_103 rfl rfl ?_
      refine g_isub (pc' := 105) dX9_fillRow_104 rfl ?_
      refine g_putI (pc' := 108) dX9_fillRow_105 rfl p_X9_162 rfl rfl ⟨by omega, by omega⟩ (fun M4 hM4 => ?_)
      have iM4 : IC M4 := IC.wr ic1 hM4 (by unfold okw isT; first | decide | omega)
      have fM4 : Fr (fun c => c = 0 ∨ (2 ≤ c ∧ c ≤ 6)) M M4 := Fr.wr fr1 hM4 (by first | decide | omega | (dsimp only; omega))
      have q2_5_M4 : id (M4 2 5 = M 2 5) := (show M4 2 5 = M1 2 5 by rw [hM4]; exact mu_ne _ _ (by first | decide | omega)).trans q2_5
      have q1_2_M4 : id (M4 1 2 = M 1 2) := (show M4 1 2 = M1 1 2 by rw [hM4]; exact mu_ne _ _ (by first | decide | omega)).trans q1_2
      have q1_4_M4 : id (M4 1 4 = M 1 4) := (show M4 1 4 = M1 1 4 by rw [hM4]; exact mu_ne _ _ (by first | decide | omega)).trans q1_4
      have q1_6_M4 : id (M4 1 6 = M 1 6) := (show M4 1 6 = M1 1 6 by rw [hM4]; exact mu_ne _ _ (by first | decide | omega)).trans q1_6
      have q11_5_M4 : id (M4 11 5 = M 11 5) := (show M4 11 5 = M1 11 5 by rw [hM4]; exact mu_ne _ _ (by first | decide | omega)).trans q11_5
      have q10_2_M4 : id (M4 10 2 = M 10 2) := (show M4 10 2 = M1 10 2 by rw [hM4]; exact mu_ne _ _ (by first | decide | omega)).trans q10_2
      have q10_4_M4 : id (M4 10 4 = M 10 4) := (show M4 10 4 = M1 10 4 by rw [hM4]; exact mu_ne _ _ (by first | decide | omega)).trans q10_4
      have q10_6_M4 : id (M4 10 6 = M 10 6) := (show M4 10 6 = M1 10 6 by rw [hM4]; exact mu_ne _ _ (by first | decide | omega)).trans q10_6
      have q20_5_M4 : id (M4 20 5 = M 20 5) := (show M4 20 5 = M1 20 5 by rw [hM4]; exact mu_ne _ _ (by first | decide | omega)).trans q20_5
      have q19_2_M4 : id (M4 19 2 = M 19 2) := (show M4 19 2 = M1 19 2 by rw [hM4]; exact mu_ne _ _ (by first | decide | omega)).trans q19_2
      have q19_4_M4 : id (M4 19 4 = M 19 4) := (show M4 19 4 = M1 19 4 by rw [hM4]; exact mu_ne _ _ (by first | decide | omega)).trans q19_4
      have q19_6_M4 : id (M4 19 6 = M 19 6) := (show M4 19 6 = M1 19 6 by rw [hM4]; exact mu_ne _ _ (by first | decide | omega)).trans q19_6
      have q29_0_M4 : id (M4 29 0 = M 29 0) := (show M4 29 0 = M1 29 0 by rw [hM4]; exact mu_ne _ _ (by first | decide | omega)).trans q29_0
      have q29_1_M4 : id (M4 29 1 = M 29 1) := (show M4 29 1 = M1 29 1 by rw [hM4]; exact mu_ne _ _ (by first | decide | omega)).trans q29_1
      have q31_1_M4 : id (M4 31 1 = M 31 1) := (show M4 31 1 = M1 31 1 by rw [hM4]; exact mu_ne _ _ (by first | decide | omega)).trans q31_1
      have q0_12_M4 : id (M4 0 12 = M 0 12) := (show M4 0 12 = M1 0 12 by rw [hM4]; exact mu_ne _ _ (by first | decide | omega)).trans q0_12
      have q0_13_M4 : id (M4 0 13 = M 0 13) := (show M4 0 13 = M1 0 13 by rw [hM4]; exact mu_ne _ _ (by first | decide | omega)).trans q0_13
      have q0_10_M4 : id (M4 0 10 = M 0 10) := (show M4 0 10 = M1 0 10 by rw [hM4]; exact mu_ne _ _ (by first | decide | omega)).trans q0_10
      have wM4_31_1 : M4 31 1 = M1 31 1 := by rw [hM4]; exact mu_ne _ _ (by first | decide | omega)
      have xM4_0_11 : M4 0 11 = (v1 - 1) - f := by rw [hM4]; exact mu_at _ _ _ _
      have tvM4 := TV.far tv1 (show Fr (fun c => c = 0) M1 M4 from fun q hq => by rw [hM4]; exact mu_cell _ _ hq) (fun c z => by unfold inT; first | omega | (dsimp only at z; omega))
      have tnM4 := tvM4.2.2.1
      refine g_iload_n (pc' := 109) 0 dX9_fillRow_108 rfl rfl ?_
      refine g_ireturn dX9_fillRow_109 ?_
      exact ⟨iM4, fM4, q2_5_M4, q1_2_M4, q1_4_M4, q1_6_M4, q11_5_M4, q10_2_M4, q10_4_M4, q10_6_M4, q20_5_M4, q19_2_M4, q19_4_M4, q19_6_M4, q29_0_M4, q29_1_M4, q31_1_M4, q0_12_M4, q0_13_M4, q0_10_M4, by omega, rwM z (M 32) (M 32 0) m (i - 1).toNat, ⟨fun q => absurd q (by omega), fun _ => ⟨by rw [show M 31 1 - 1 = i - 1 by omega]; exact hf, by omega, by rw [show M 31 1 - 1 = i - 1 by omega]⟩⟩, ta, tb, P1, L, F1, Z, tvM4, pb1⟩
    · refine g_aload_n (pc' := 51) 2 dX9_fillRow_50 rfl rfl ?_
      refine g_getR (pc' := 54) dX9_fillRow_51 rfl f_X9_12 rfl rfl ?_
      refine g_getR (pc' := 57) dX9_fillRow_54 rfl f_X9_86 rfl rfl ?_
      refine g_aload_n (pc' := 58) 2 dX9_fillRow_57 rfl rfl ?_
      refine g_getR (pc' := 61) dX9_fillRow_58 rfl f_X9_35 rfl rfl ?_
      refine g_getR (pc' := 64) dX9_fillRow_61 rfl f_X9_159 rfl rfl ?_
      refine g_iconst (pc' := 65) dX9_fillRow_64 rfl ?_
      refine g_iald (pc' := 66) dX9_fillRow_65 rfl rfl (by decide) (by decide) (fun v5 ev5 rv5 => ?_)
      have ev5 : v5 = M1 32 0 := ev5
      have kv5 : v5 = M 32 0 := by rw [ev5, fr1 32 (by decide)]
      refine g_iload_n (pc' := 67) 1 dX9_fillRow_66 rfl rfl ?_
      refine g_iconst (pc' := 68) dX9_fillRow_67 rfl ?_
      refine g_isub (pc' := 69) dX9_fillRow_68 rfl ?_
      refine g_aload_n (pc' := 70) 2 dX9_fillRow_69 rfl rfl ?_
      refine g_getR (pc' := 73) dX9_fillRow_70 rfl f_X9_35 rfl rfl ?_
      refine g_getR (pc' := 76) dX9_fillRow_73 rfl f_X9_159 rfl rfl ?_
      refine g_iload_n (pc' := 77) 1 dX9_fillRow_76 rfl rfl ?_
      refine g_iald (pc' := 78) dX9_fillRow_77 rfl rfl (by omega) (by omega) (fun v6 ev6 rv6 => ?_)
      have kv6 : v6 = M 32 i.toNat := by rw [ev6, fr1 32 (by decide)]
      refine g_callVi (pc' := 81) (As := [vi v5, vi (i - 1), vi v6]) (b := 2) (S := []) dX9_fillRow_78 rfl m_X9_122 w_X7_pour (c_X7_pour_x X M1 2 isT_2 (ic1.1 _ isT_2) v5 rv5 (i - 1) ⟨by omega, by omega⟩ v6 rv6 ta tb n P1 L F1 Z tv1 pb1.1.ct) rfl ⟨_, _, _, rfl, rfl, rfl⟩ (by decide) (by decide) rfl (Nat.le_of_ble_eq_true rfl) (fun z8 M9 q7 => ?_)
      obtain ⟨kM9, fM90, gM90, pM9⟩ := q7
      have iM9 : IC M9 := IC.ofT ic1 isT_2 fM90 kM9
      have fM9 : Fr (fun c => c = 0 ∨ (2 ≤ c ∧ c ≤ 6)) M M9 := Fr.tr fr1 fM90 (fun c z => by unfold inT at z; first | omega | (dsimp only; omega))
      have q2_5_M9 : id (M9 2 5 = M 2 5) := gM90.trans q2_5
      have q1_2_M9 : id (M9 1 2 = M 1 2) := (congrFun (fM90 1 (by unfold inT; first | decide | omega)) 2).trans q1_2
      have q1_4_M9 : id (M9 1 4 = M 1 4) := (congrFun (fM90 1 (by unfold inT; first | decide | omega)) 4).trans q1_4
      have q1_6_M9 : id (M9 1 6 = M 1 6) := (congrFun (fM90 1 (by unfold inT; first | decide | omega)) 6).trans q1_6
      have q11_5_M9 : id (M9 11 5 = M 11 5) := (congrFun (fM90 11 (by unfold inT; first | decide | omega)) 5).trans q11_5
      have q10_2_M9 : id (M9 10 2 = M 10 2) := (congrFun (fM90 10 (by unfold inT; first | decide | omega)) 2).trans q10_2
      have q10_4_M9 : id (M9 10 4 = M 10 4) := (congrFun (fM90 10 (by unfold inT; first | decide | omega)) 4).trans q10_4
      have q10_6_M9 : id (M9 10 6 = M 10 6) := (congrFun (fM90 10 (by unfold inT; first | decide | omega)) 6).trans q10_6
      have q20_5_M9 : id (M9 20 5 = M 20 5) := (congrFun (fM90 20 (by unfold inT; first | decide | omega)) 5).trans q20_5
      have q19_2_M9 : id (M9 19 2 = M 19 2) := (congrFun (fM90 19 (by unfold inT; first | decide | omega)) 2).trans q19_2
      have q19_4_M9 : id (M9 19 4 = M 19 4) := (congrFun (fM90 19 (by unfold inT; first | decide | omega)) 4).trans q19_4
      have q19_6_M9 : id (M9 19 6 = M 19 6) := (congrFun (fM90 19 (by unfold inT; first | decide | omega)) 6).trans q19_6
      have q29_0_M9 : id (M9 29 0 = M 29 0) := (congrFun (fM90 29 (by unfold inT; first | decide | omega)) 0).trans q29_0
      have q29_1_M9 : id (M9 29 1 = M 29 1) := (congrFun (fM90 29 (by unfold inT; first | decide | omega)) 1).trans q29_1
      have q31_1_M9 : id (M9 31 1 = M 31 1) := (congrFun (fM90 31 (by unfold inT; first | decide | omega)) 1).trans q31_1
      have q0_12_M9 : id (M9 0 12 = M 0 12) := (congrFun (fM90 0 (by unfold inT; first | decide | omega)) 12).trans q0_12
      have q0_13_M9 : id (M9 0 13 = M 0 13) := (congrFun (fM90 0 (by unfold inT; first | decide | omega)) 13).trans q0_13
      have q0_10_M9 : id (M9 0 10 = M 0 10) := (congrFun (fM90 0 (by unfold inT; first | decide | omega)) 10).trans q0_10
      have q0_11_M9 : (M9 0 11 = M 0 11) := (congrFun (fM90 0 (by unfold inT; first | decide | omega)) 11).trans q0_11
      have wM9_0_11 : M9 0 11 = M1 0 11 := (congrFun (fM90 0 (by unfold inT; first | decide | omega)) 11)
      have wM9_31_1 : M9 31 1 = M1 31 1 := (congrFun (fM90 31 (by unfold inT; first | decide | omega)) 1)
      obtain ⟨PM9, FM9, tvM9, poM9⟩ := pM9
      have tnM9 := tvM9.2.2.1
      have rrM9 := poM9.r
      rw [show v5 = M 32 0 by omega] at poM9
      obtain ⟨pbM9, rcM9⟩ := RW.st (k := (i - 1).toNat) pb1 poM9 (by omega) (by rw [show (i - 1).toNat + 1 = i.toNat by omega]; omega) (by omega)
      rw [show (i - 1).toNat + 1 = (i + 1 - 1).toNat by omega] at pbM9 rcM9
      refine g_if_ne (pc' := 84) (tgt := 87) ⟨by omega, by omega⟩ dX9_fillRow_81 rfl rfl (fun c10 => ?_) (fun c10 => ?_)
      · refine g_iinc (pc' := 90) (L' := [(2, vi (i + 1)), (1, vi f), (0, vr X 0)]) 1 dX9_fillRow_87 rfl rfl (by decide) rfl ?_
        refine g_goto (tgt := 39) dX9_fillRow_90 rfl ?_
        refine g_sub [1, 0, 2] rfl ?_
        exact ih _ (by omega) f (i + 1) M9 iM9 fM9 q2_5_M9 q1_2_M9 q1_4_M9 q1_6_M9 q11_5_M9 q10_2_M9 q10_4_M9 q10_6_M9 q20_5_M9 q19_2_M9 q19_4_M9 q19_6_M9 q29_0_M9 q29_1_M9 q31_1_M9 q0_12_M9 q0_13_M9 q0_10_M9 q0_11_M9 (by omega) (by omega) (by omega) PM9 FM9 tvM9 pbM9 (by omega) rfl
      · refine g_iinc (pc' := 87) (L' := [(1, vi (f + 1)), (2, vi i), (0, vr X 0)]) 0 dX9_fillRow_84 rfl rfl (by decide) rfl ?_
        refine g_iinc (pc' := 90) (L' := [(2, vi (i + 1)), (1, vi (f + 1)), (0, vr X 0)]) 1 dX9_fillRow_87 rfl rfl (by decide) rfl ?_
        refine g_goto (tgt := 39) dX9_fillRow_90 rfl ?_
        refine g_sub [1, 0, 2] rfl ?_
        exact ih _ (by omega) (f + 1) (i + 1) M9 iM9 fM9 q2_5_M9 q1_2_M9 q1_4_M9 q1_6_M9 q11_5_M9 q10_2_M9 q10_4_M9 q10_6_M9 q20_5_M9 q19_2_M9 q19_4_M9 q19_6_M9 q29_0_M9 q29_1_M9 q31_1_M9 q0_12_M9 q0_13_M9 q0_10_M9 q0_11_M9 (by omega) (by omega) (by omega) PM9 FM9 tvM9 pbM9 (by omega) rfl
set_option maxHeartbeats 4000000 in
set_option maxRecDepth 100000 in
theorem c_X9_fillRow_x (X : Cx) (M : Mm) (hi : IC M) (ta tb : Nat) (n : Int) (P : Nat → Int) (L : Int) (F Z m z : Nat → Int) (tv : TV M 2 ta tb n P L F Z) (pub : PUB n P L F Z m z) : Con X 3 yX9_fillRow cX9_fillRow 3 (some .int) [vr X 0] M (Qi (fun r M1 => IC M1 ∧ Fr (fun c => c = 0 ∨ (2 ≤ c ∧ c ≤ 6)) M M1 ∧ M1 2 5 = M 2 5 ∧ M1 1 2 = M 1 2 ∧ M1 1 4 = M 1 4 ∧ M1 1 6 = M 1 6 ∧ M1 11 5 = M 11 5 ∧ M1 10 2 = M 10 2 ∧ M1 10 4 = M 10 4 ∧ M1 10 6 = M 10 6 ∧ M1 20 5 = M 20 5 ∧ M1 19 2 = M 19 2 ∧ M1 19 4 = M 19 4 ∧ M1 19 6 = M 19 6 ∧ M1 29 0 = M 29 0 ∧ M1 29 1 = M 29 1 ∧ M1 31 1 = M 31 1 ∧ M1 0 12 = M 0 12 ∧ M1 0 13 = M 0 13 ∧ M1 0 10 = M 0 10 ∧ ((-6 ≤ r ∧ r ≤ 400) ∧ ∃ m1 : Nat → Int, RWQ n z (M 32) m (M 31 1) (M 0 11) r (M1 0 11) m1 ∧ PB M1 2 n m1 z))) := by
  refine Con.ofG rfl (Nat.le_of_ble_eq_true rfl) ?_
  show G X 3 RX9 cX9_fillRow 3 (some .int) (Qi (fun r M1 => IC M1 ∧ Fr (fun c => c = 0 ∨ (2 ≤ c ∧ c ≤ 6)) M M1 ∧ M1 2 5 = M 2 5 ∧ M1 1 2 = M 1 2 ∧ M1 1 4 = M 1 4 ∧ M1 1 6 = M 1 6 ∧ M1 11 5 = M 11 5 ∧ M1 10 2 = M 10 2 ∧ M1 10 4 = M 10 4 ∧ M1 10 6 = M 10 6 ∧ M1 20 5 = M 20 5 ∧ M1 19 2 = M 19 2 ∧ M1 19 4 = M 19 4 ∧ M1 19 6 = M 19 6 ∧ M1 29 0 = M 29 0 ∧ M1 29 1 = M 29 1 ∧ M1 31 1 = M 31 1 ∧ M1 0 12 = M 0 12 ∧ M1 0 13 = M 0 13 ∧ M1 0 10 = M 0 10 ∧ ((-6 ≤ r ∧ r ≤ 400) ∧ ∃ m1 : Nat → Int, RWQ n z (M 32) m (M 31 1) (M 0 11) r (M1 0 11) m1 ∧ PB M1 2 n m1 z))) 0 [(0, vr X 0)] [] M
  have tn := tv.2.2.1
  have ctn := pub.1.1
  have h311 := hi.2.2.1.1
  refine g_aload_n (pc' := 1) 0 dX9_fillRow_0 rfl rfl ?_
  refine g_getR (pc' := 4) dX9_fillRow_1 rfl f_X9_35 rfl rfl ?_
  refine g_getI (pc' := 7) dX9_fillRow_4 rfl f_X9_147 rfl rfl (fun v1 ev1 rv1 => ?_)
  have bv1 : 0 ≤ v1 ∧ v1 ≤ 400 := by rw [ev1]; exact hi.2.2.1.1
  have av1 : v1 = M 31 1 := ev1
  refine g_if_le (pc' := 10) (tgt := 32) rv1 dX9_fillRow_7 rfl rfl (fun c2 => ?_) (fun c2 => ?_)
  · refine g_bipush (pc' := 34) (v := (-6)) dX9_fillRow_32 rfl (by decide) ?_
    refine g_ireturn dX9_fillRow_34 ?_
    exact ⟨hi, Fr.rf, rfl, rfl, rfl, rfl, rfl, rfl, rfl, rfl, rfl, rfl, rfl, rfl, rfl, rfl, rfl, rfl, rfl, rfl, by omega, m, ⟨fun _ => ⟨rfl, rfl, rfl⟩, fun q => absurd (by omega) q⟩, ta, tb, P, L, F, Z, tv, pub⟩
  · refine g_aload_n (pc' := 11) 0 dX9_fillRow_10 rfl rfl ?_
    refine g_getR (pc' := 14) dX9_fillRow_11 rfl f_X9_12 rfl rfl ?_
    refine g_getR (pc' := 17) dX9_fillRow_14 rfl f_X9_86 rfl rfl ?_
    refine g_aload_n (pc' := 18) 0 dX9_fillRow_17 rfl rfl ?_
    refine g_getR (pc' := 21) dX9_fillRow_18 rfl f_X9_35 rfl rfl ?_
    refine g_getR (pc' := 24) dX9_fillRow_21 rfl f_X9_159 rfl rfl ?_
    refine g_iconst (pc' := 25) dX9_fillRow_24 rfl ?_
    refine g_iald (pc' := 26) dX9_fillRow_25 rfl rfl (by decide) (by decide) (fun v3 ev3 rv3 => ?_)
    have ev3 : v3 = M 32 0 := ev3
    have kv3 : v3 = M 32 0 := ev3
    refine g_callVip (pc' := 29) (As := [vi v3]) (b := 2) (S := []) dX9_fillRow_26 rfl m_X9_92 w_X7_has (c_X7_has X M 2 isT_2 (hi.1 _ isT_2) v3 rv3) rfl ⟨_, _, _, rfl, rfl, rfl⟩ (by decide) (by decide) rfl (Nat.le_of_ble_eq_true rfl) (fun z5 q4 => ?_)
    refine g_if_ne (pc' := 32) (tgt := 35) ⟨by omega, by omega⟩ dX9_fillRow_29 rfl rfl (fun c6 => ?_) (fun c6 => ?_)
    · replace q4 := q4.resolve_right (fun h => c6 h.1)
      refine g_iconst (pc' := 36) dX9_fillRow_35 rfl ?_
      refine g_istore_n (pc' := 37) (i := 1) (L' := [(1, vi 0), (0, vr X 0)]) dX9_fillRow_36 rfl rfl (by decide) rfl ?_
      refine g_iconst (pc' := 38) dX9_fillRow_37 rfl ?_
      refine g_istore_n (pc' := 39) (i := 2) (L' := [(2, vi 1), (1, vi 0), (0, vr X 0)]) dX9_fillRow_38 rfl rfl (by decide) rfl ?_
      refine g_sub [1, 0, 2] rfl ?_
      exact l_X9_fillRow_x_39 X M hi ta tb n P L F Z m z tv pub _ 0 1 M hi Fr.rf rfl rfl rfl rfl rfl rfl rfl rfl rfl rfl rfl rfl rfl rfl rfl rfl rfl rfl rfl (by omega) (by omega) (by omega) P F tv pub rfl rfl
    · replace q4 := q4.resolve_left (fun h => absurd (c6.symm.trans h.1) (by decide))
      refine g_bipush (pc' := 34) (v := (-6)) dX9_fillRow_32 rfl (by decide) ?_
      refine g_ireturn dX9_fillRow_34 ?_
      exact ⟨hi, Fr.rf, rfl, rfl, rfl, rfl, rfl, rfl, rfl, rfl, rfl, rfl, rfl, rfl, rfl, rfl, rfl, rfl, rfl, rfl, by omega, m, ⟨fun _ => ⟨rfl, rfl, rfl⟩, fun q => absurd (by omega) q⟩, ta, tb, P, L, F, Z, tv, pub⟩
set_option maxHeartbeats 4000000 in
set_option maxRecDepth 100000 in
theorem c_X9_row_x (X : Cx) (M : Mm) (hi : IC M) (ta tb : Nat) (n : Int) (P : Nat → Int) (L : Int) (F Z m z : Nat → Int) (tv : TV M 2 ta tb n P L F Z) (pub : PUB n P L F Z m z) : Con X 4 yX9_row cX9_row 2 (some .int) [vr X 0] M (Qi (fun r M1 => IC M1 ∧ Fr (fun c => (2 ≤ c ∧ c ≤ 6) ∨ c = 31 ∨ c = 0 ∨ c = 96) M M1 ∧ M1 2 5 = M 2 5 ∧ M1 1 2 = M 1 2 ∧ M1 1 4 = M 1 4 ∧ M1 1 6 = M 1 6 ∧ M1 11 5 = M 11 5 ∧ M1 10 2 = M 10 2 ∧ M1 10 4 = M 10 4 ∧ M1 10 6 = M 10 6 ∧ M1 20 5 = M 20 5 ∧ M1 19 2 = M 19 2 ∧ M1 19 4 = M 19 4 ∧ M1 19 6 = M 19 6 ∧ M1 29 0 = M 29 0 ∧ M1 29 1 = M 29 1 ∧ M1 0 12 = M 0 12 ∧ M1 0 13 = M 0 13 ∧ ((-6 ≤ r ∧ r ≤ 400) ∧ ∃ m1 : Nat → Int, RWQ n z (M 32) m (M 31 1) (M 0 11) r (M1 0 11) m1 ∧ PB M1 2 n m1 z ∧ M1 31 1 = 0 ∧ M1 0 10 = ngv r ∧ M1 96 = ansF (M 96) r))) := by
  refine Con.ofG rfl (Nat.le_of_ble_eq_true rfl) ?_
  show G X 4 RX9 cX9_row 2 (some .int) (Qi (fun r M1 => IC M1 ∧ Fr (fun c => (2 ≤ c ∧ c ≤ 6) ∨ c = 31 ∨ c = 0 ∨ c = 96) M M1 ∧ M1 2 5 = M 2 5 ∧ M1 1 2 = M 1 2 ∧ M1 1 4 = M 1 4 ∧ M1 1 6 = M 1 6 ∧ M1 11 5 = M 11 5 ∧ M1 10 2 = M 10 2 ∧ M1 10 4 = M 10 4 ∧ M1 10 6 = M 10 6 ∧ M1 20 5 = M 20 5 ∧ M1 19 2 = M 19 2 ∧ M1 19 4 = M 19 4 ∧ M1 19 6 = M 19 6 ∧ M1 29 0 = M 29 0 ∧ M1 29 1 = M 29 1 ∧ M1 0 12 = M 0 12 ∧ M1 0 13 = M 0 13 ∧ ((-6 ≤ r ∧ r ≤ 400) ∧ ∃ m1 : Nat → Int, RWQ n z (M 32) m (M 31 1) (M 0 11) r (M1 0 11) m1 ∧ PB M1 2 n m1 z ∧ M1 31 1 = 0 ∧ M1 0 10 = ngv r ∧ M1 96 = ansF (M 96) r))) 0 [(0, vr X 0)] [] M
  have tn := tv.2.2.1
  have ctn := pub.1.1
  refine g_aload_n (pc' := 1) 0 dX9_row_0 rfl rfl ?_
  refine g_callVi (pc' := 4) (As := []) (b := 0) (S := []) dX9_row_1 rfl m_X9_155 w_X9_fillRow (c_X9_fillRow_x X M hi ta tb n P L F Z m z tv pub) rfl ⟨_, _, _, rfl, rfl, rfl⟩ (by decide) (by decide) rfl (Nat.le_of_ble_eq_true rfl) (fun z2 M3 q1 => ?_)
  obtain ⟨iM3, fM30, eM3_2_5, eM3_1_2, eM3_1_4, eM3_1_6, eM3_11_5, eM3_10_2, eM3_10_4, eM3_10_6, eM3_20_5, eM3_19_2, eM3_19_4, eM3_19_6, eM3_29_0, eM3_29_1, eM3_31_1, eM3_0_12, eM3_0_13, eM3_0_10, pM3⟩ := q1
  have fM3 : Fr (fun c => (2 ≤ c ∧ c ≤ 6) ∨ c = 31 ∨ c = 0 ∨ c = 96) M M3 := Fr.tr Fr.rf fM30 fi_11
  have q2_5_M3 : id (M3 2 5 = M 2 5) := eM3_2_5
  have q1_2_M3 : id (M3 1 2 = M 1 2) := eM3_1_2
  have q1_4_M3 : id (M3 1 4 = M 1 4) := eM3_1_4
  have q1_6_M3 : id (M3 1 6 = M 1 6) := eM3_1_6
  have q11_5_M3 : id (M3 11 5 = M 11 5) := eM3_11_5
  have q10_2_M3 : id (M3 10 2 = M 10 2) := eM3_10_2
  have q10_4_M3 : id (M3 10 4 = M 10 4) := eM3_10_4
  have q10_6_M3 : id (M3 10 6 = M 10 6) := eM3_10_6
  have q20_5_M3 : id (M3 20 5 = M 20 5) := eM3_20_5
  have q19_2_M3 : id (M3 19 2 = M 19 2) := eM3_19_2
  have q19_4_M3 : id (M3 19 4 = M 19 4) := eM3_19_4
  have q19_6_M3 : id (M3 19 6 = M 19 6) := eM3_19_6
  have q29_0_M3 : id (M3 29 0 = M 29 0) := eM3_29_0
  have q29_1_M3 : id (M3 29 1 = M 29 1) := eM3_29_1
  have q0_12_M3 : id (M3 0 12 = M 0 12) := eM3_0_12
  have q0_13_M3 : id (M3 0 13 = M 0 13) := eM3_0_13
  have q31_1_M3 : (M3 31 1 = M 31 1) := eM3_31_1
  have q0_10_M3 : (M3 0 10 = M 0 10) := eM3_0_10
  have wM3_0_10 : M3 0 10 = M 0 10 := eM3_0_10
  have wM3_31_1 : M3 31 1 = M 31 1 := eM3_31_1
  clear eM3_2_5 eM3_1_2 eM3_1_4 eM3_1_6 eM3_11_5 eM3_10_2 eM3_10_4 eM3_10_6 eM3_20_5 eM3_19_2 eM3_19_4 eM3_19_6 eM3_29_0 eM3_29_1 eM3_0_12 eM3_0_13
  obtain ⟨pr, mm, rq, pq⟩ := pM3
  have e96M3 := fM30 96 (by first | decide | omega | (dsimp only; omega))
  refine g_istore_n (pc' := 5) (i := 1) (L' := [(1, vi z2), (0, vr X 0)]) dX9_row_4 rfl rfl (by decide) rfl ?_
  refine g_aload_n (pc' := 6) 1 dX9_row_5 rfl rfl ?_
  refine g_getR (pc' := 9) dX9_row_6 rfl f_X9_35 rfl rfl ?_
  refine g_iconst (pc' := 10) dX9_row_9 rfl ?_
  refine g_putI (pc' := 13) dX9_row_10 rfl p_X9_147 rfl rfl (by decide) (fun M4 hM4 => ?_)
  have iM4 : IC M4 := IC.wr iM3 hM4 (by unfold okw isT; first | decide | omega)
  have fM4 : Fr (fun c => (2 ≤ c ∧ c ≤ 6) ∨ c = 31 ∨ c = 0 ∨ c = 96) M M4 := Fr.wr fM3 hM4 (by first | decide | omega | (dsimp only; omega))
  have q2_5_M4 : id (M4 2 5 = M 2 5) := (show M4 2 5 = M3 2 5 by rw [hM4]; exact mu_ne _ _ (by first | decide | omega)).trans q2_5_M3
  have q1_2_M4 : id (M4 1 2 = M 1 2) := (show M4 1 2 = M3 1 2 by rw [hM4]; exact mu_ne _ _ (by first | decide | omega)).trans q1_2_M3
  have q1_4_M4 : id (M4 1 4 = M 1 4) := (show M4 1 4 = M3 1 4 by rw [hM4]; exact mu_ne _ _ (by first | decide | omega)).trans q1_4_M3
  have q1_6_M4 : id (M4 1 6 = M 1 6) := (show M4 1 6 = M3 1 6 by rw [hM4]; exact mu_ne _ _ (by first | decide | omega)).trans q1_6_M3
  have q11_5_M4 : id (M4 11 5 = M 11 5) := (show M4 11 5 = M3 11 5 by rw [hM4]; exact mu_ne _ _ (by first | decide | omega)).trans q11_5_M3
  have q10_2_M4 : id (M4 10 2 = M 10 2) := (show M4 10 2 = M3 10 2 by rw [hM4]; exact mu_ne _ _ (by first | decide | omega)).trans q10_2_M3
  have q10_4_M4 : id (M4 10 4 = M 10 4) := (show M4 10 4 = M3 10 4 by rw [hM4]; exact mu_ne _ _ (by first | decide | omega)).trans q10_4_M3
  have q10_6_M4 : id (M4 10 6 = M 10 6) := (show M4 10 6 = M3 10 6 by rw [hM4]; exact mu_ne _ _ (by first | decide | omega)).trans q10_6_M3
  have q20_5_M4 : id (M4 20 5 = M 20 5) := (show M4 20 5 = M3 20 5 by rw [hM4]; exact mu_ne _ _ (by first | decide | omega)).trans q20_5_M3
  have q19_2_M4 : id (M4 19 2 = M 19 2) := (show M4 19 2 = M3 19 2 by rw [hM4]; exact mu_ne _ _ (by first | decide | omega)).trans q19_2_M3
  have q19_4_M4 : id (M4 19 4 = M 19 4) := (show M4 19 4 = M3 19 4 by rw [hM4]; exact mu_ne _ _ (by first | decide | omega)).trans q19_4_M3
  have q19_6_M4 : id (M4 19 6 = M 19 6) := (show M4 19 6 = M3 19 6 by rw [hM4]; exact mu_ne _ _ (by first | decide | omega)).trans q19_6_M3
  have q29_0_M4 : id (M4 29 0 = M 29 0) := (show M4 29 0 = M3 29 0 by rw [hM4]; exact mu_ne _ _ (by first | decide | omega)).trans q29_0_M3
  have q29_1_M4 : id (M4 29 1 = M 29 1) := (show M4 29 1 = M3 29 1 by rw [hM4]; exact mu_ne _ _ (by first | decide | omega)).trans q29_1_M3
  have q0_12_M4 : id (M4 0 12 = M 0 12) := (show M4 0 12 = M3 0 12 by rw [hM4]; exact mu_ne _ _ (by first | decide | omega)).trans q0_12_M3
  have q0_13_M4 : id (M4 0 13 = M 0 13) := (show M4 0 13 = M3 0 13 by rw [hM4]; exact mu_ne _ _ (by first | decide | omega)).trans q0_13_M3
  have q0_10_M4 : (M4 0 10 = M 0 10) := (show M4 0 10 = M3 0 10 by rw [hM4]; exact mu_ne _ _ (by first | decide | omega)).trans q0_10_M3
  have wM4_0_10 : M4 0 10 = M3 0 10 := by rw [hM4]; exact mu_ne _ _ (by first | decide | omega)
  have wM4_0_11 : M4 0 11 = M3 0 11 := by rw [hM4]; exact mu_ne _ _ (by first | decide | omega)
  have xM4_31_1 : M4 31 1 = 0 := by rw [hM4]; exact mu_at _ _ _ _
  have pqM4 := PB.far pq (show Fr (fun c => c = 31) M3 M4 from fun q hq => by rw [hM4]; exact mu_cell _ _ hq) (fun c z => by unfold inT; first | omega | (dsimp only at z; omega))
  have e96M4 : M4 96 = M 96 := (show M4 96 = M3 96 by rw [hM4]; exact mu_cell _ _ (by decide)).trans e96M3
  refine g_aload_n (pc' := 14) 1 dX9_row_13 rfl rfl ?_
  refine g_iload_n (pc' := 15) 0 dX9_row_14 rfl rfl ?_
  refine g_callVi (pc' := 18) (As := [vi z2]) (b := 0) (S := []) dX9_row_15 rfl m_X9_79 w_X9_answered (c_X9_answered_x X M4 iM4 z2 ⟨by omega, by omega⟩) rfl ⟨_, _, _, rfl, rfl, rfl⟩ (by decide) (by decide) rfl (Nat.le_of_ble_eq_true rfl) (fun z6 M7 q5 => ?_)
  obtain ⟨iM7, fM70, eM7_2_5, eM7_1_2, eM7_1_4, eM7_1_6, eM7_11_5, eM7_10_2, eM7_10_4, eM7_10_6, eM7_20_5, eM7_19_2, eM7_19_4, eM7_19_6, eM7_29_0, eM7_29_1, eM7_31_1, eM7_0_11, eM7_0_12, eM7_0_13, pM7⟩ := q5
  have fM7 : Fr (fun c => (2 ≤ c ∧ c ≤ 6) ∨ c = 31 ∨ c = 0 ∨ c = 96) M M7 := Fr.tr fM4 fM70 fi_12
  have q2_5_M7 : id (M7 2 5 = M 2 5) := eM7_2_5.trans q2_5_M4
  have q1_2_M7 : id (M7 1 2 = M 1 2) := eM7_1_2.trans q1_2_M4
  have q1_4_M7 : id (M7 1 4 = M 1 4) := eM7_1_4.trans q1_4_M4
  have q1_6_M7 : id (M7 1 6 = M 1 6) := eM7_1_6.trans q1_6_M4
  have q11_5_M7 : id (M7 11 5 = M 11 5) := eM7_11_5.trans q11_5_M4
  have q10_2_M7 : id (M7 10 2 = M 10 2) := eM7_10_2.trans q10_2_M4
  have q10_4_M7 : id (M7 10 4 = M 10 4) := eM7_10_4.trans q10_4_M4
  have q10_6_M7 : id (M7 10 6 = M 10 6) := eM7_10_6.trans q10_6_M4
  have q20_5_M7 : id (M7 20 5 = M 20 5) := eM7_20_5.trans q20_5_M4
  have q19_2_M7 : id (M7 19 2 = M 19 2) := eM7_19_2.trans q19_2_M4
  have q19_4_M7 : id (M7 19 4 = M 19 4) := eM7_19_4.trans q19_4_M4
  have q19_6_M7 : id (M7 19 6 = M 19 6) := eM7_19_6.trans q19_6_M4
  have q29_0_M7 : id (M7 29 0 = M 29 0) := eM7_29_0.trans q29_0_M4
  have q29_1_M7 : id (M7 29 1 = M 29 1) := eM7_29_1.trans q29_1_M4
  have q0_12_M7 : id (M7 0 12 = M 0 12) := eM7_0_12.trans q0_12_M4
  have q0_13_M7 : id (M7 0 13 = M 0 13) := eM7_0_13.trans q0_13_M4
  have wM7_0_11 : M7 0 11 = M4 0 11 := eM7_0_11
  have wM7_31_1 : M7 31 1 = M4 31 1 := eM7_31_1
  have xM7_31_1 : M7 31 1 = 0 := eM7_31_1.trans xM4_31_1
  clear eM7_2_5 eM7_1_2 eM7_1_4 eM7_1_6 eM7_11_5 eM7_10_2 eM7_10_4 eM7_10_6 eM7_20_5 eM7_19_2 eM7_19_4 eM7_19_6 eM7_29_0 eM7_29_1 eM7_0_12 eM7_0_13
  obtain ⟨anM7, asM7, a96M7⟩ := pM7
  rw [e96M4] at a96M7
  subst anM7
  have pqM7 := PB.far pqM4 fM70 (fun c z => by unfold inT; first | omega | (dsimp only at z; omega))
  refine g_ireturn dX9_row_18 ?_
  exact ⟨iM7, fM7, q2_5_M7, q1_2_M7, q1_4_M7, q1_6_M7, q11_5_M7, q10_2_M7, q10_4_M7, q10_6_M7, q20_5_M7, q19_2_M7, q19_4_M7, q19_6_M7, q29_0_M7, q29_1_M7, q0_12_M7, q0_13_M7, pr, mm, by rw [show M7 0 11 = M3 0 11 by omega]; exact rq, pqM7, by omega, asM7, a96M7⟩
set_option maxHeartbeats 4000000 in
set_option maxRecDepth 100000 in
theorem l_X10_row_x_48 (X : Cx) (M : Mm) (hi : IM M) : ∀ (kk : Nat) (hd : Int) (cm : Int) (k : Int) (M1 : Mm) (ic1 : IM M1) (fr1 : Fr (fun c => c = 97 ∨ c = 98 ∨ c = 101) M M1) (q99_0 : (M1 99 0 = M 99 0)) (q99_1 : (M1 99 1 = M 99 1)) (q99_2 : (M1 99 2 = M 99 2)) (q99_3 : (M1 99 3 = M 99 3)) (q100_0 : id (M1 100 0 = M 100 0)) (q100_1 : id (M1 100 1 = M 100 1)) (q100_2 : id (M1 100 2 = M 100 2)) (q100_3 : id (M1 100 3 = M 100 3)) (q100_49 : id (M1 100 49 = M 100 49)) (q100_50 : id (M1 100 50 = M 100 50)) (q100_51 : id (M1 100 51 = M 100 51)) (q100_52 : id (M1 100 52 = M 100 52)) (q103_0 : id (M1 103 0 = M 103 0)) (q103_1 : id (M1 103 1 = M 103 1)) (q97_17 : (M1 97 17 = M 97 17)) (q97_33 : (M1 97 33 = M 97 33)) (q97_44 : (M1 97 44 = M 97 44)) (q97_1 : (M1 97 1 = M 97 1)) (hd2 : hd = M 97 12 ∧ 1 ≤ hd ∧ hd ≤ 400) (hk : 1 ≤ k ∧ k ≤ hd) (hz : M1 97 12 = 0) (hsp : M1 97 10 = k - 1 - cm) (hgl : 0 ≤ M 106 0 ∧ M 106 0 < M 99 0) (k98 : M1 98 = M 98) (k99 : M1 99 = M 99) (k101 : M1 101 = rwM (fun j => M 99 (4 + j)) (M 106) (M 106 0) (M 101) (k - 1).toNat) (hcm : cm = rwC (fun j => M 99 (4 + j)) (M 106) (M 106 0) (M 101) (k - 1).toNat), (401 - k).toNat = kk → G X 12 RX10 cX10_row 5 (some .int) (Qi (fun r M1 => IM M1 ∧ Fr (fun c => c = 97 ∨ c = 98 ∨ c = 101) M M1 ∧ M1 99 0 = M 99 0 ∧ M1 99 1 = M 99 1 ∧ M1 99 2 = M 99 2 ∧ M1 99 3 = M 99 3 ∧ M1 100 0 = M 100 0 ∧ M1 100 1 = M 100 1 ∧ M1 100 2 = M 100 2 ∧ M1 100 3 = M 100 3 ∧ M1 100 49 = M 100 49 ∧ M1 100 50 = M 100 50 ∧ M1 100 51 = M 100 51 ∧ M1 100 52 = M 100 52 ∧ M1 103 0 = M 103 0 ∧ M1 103 1 = M 103 1 ∧ M1 97 17 = M 97 17 ∧ M1 97 33 = M 97 33 ∧ M1 97 44 = M 97 44 ∧ ((-6 ≤ r ∧ r ≤ 400) ∧ RWQ (M 99 0) (fun j => M 99 (4 + j)) (M 106) (M 101) (M 97 12) (M 97 10) r (M1 97 10) (M1 101) ∧ M1 97 12 = 0 ∧ M1 97 1 = ngv r ∧ M1 98 = telF (M 98) r))) 48 [(1, vi hd), (2, vi cm), (3, vi k), (0, vr X 97)] [] M1 := by
  intro kk
  induction kk using Nat.strongRecOn with
  | ind kk ih =>
    intro hd cm k M1 ic1 fr1 q99_0 q99_1 q99_2 q99_3 q100_0 q100_1 q100_2 q100_3 q100_49 q100_50 q100_51 q100_52 q103_0 q103_1 q97_17 q97_33 q97_44 q97_1 hd2 hk hz hsp hgl k98 k99 k101 hcm hmes
    have p0 := hi.1.1
    have p1 := hi.1.2.1
    have p2 := hi.1.2.2.1
    have p3 := hi.1.2.2.2.1
    have p12 := hi.2.2.2.1
    have fb := rwC_b (z := (fun j => M 99 (4 + j))) (T := M 106) (g := M 106 0) (m := M 101) (k - 1).toNat
    refine g_iload_n (pc' := 49) 2 dX10_row_48 rfl rfl ?_
    refine g_iload_n (pc' := 50) 0 dX10_row_49 rfl rfl ?_
    refine g_ic_ge (pc' := 53) (tgt := 126) ⟨by omega, by omega⟩ ⟨by omega, by omega⟩ dX10_row_50 rfl rfl (fun c1 => ?_) (fun c1 => ?_)
    · refine g_aload_n (pc' := 127) 3 dX10_row_126 rfl rfl ?_
      refine g_iload_n (pc' := 128) 1 dX10_row_127 rfl rfl ?_
      refine g_callVi (pc' := 131) (As := [vi cm]) (b := 97) (S := []) dX10_row_128 rfl m_X10_87 w_X10_tell (c_X10_tell_x X M1 ic1 cm ⟨by omega, by omega⟩ (by omega)) rfl ⟨_, _, _, rfl, rfl, rfl⟩ (by decide) (by decide) rfl (Nat.le_of_ble_eq_true rfl) (fun z3 M4 q2 => ?_)
      obtain ⟨iM4, fM40, eM4_99_0, eM4_99_1, eM4_99_2, eM4_99_3, eM4_100_0, eM4_100_1, eM4_100_2, eM4_100_3, eM4_100_49, eM4_100_50, eM4_100_51, eM4_100_52, eM4_103_0, eM4_103_1, eM4_97_12, eM4_97_17, eM4_97_33, eM4_97_10, eM4_97_44, pM4⟩ := q2
      have fM4 : Fr (fun c => c = 97 ∨ c = 98 ∨ c = 101) M M4 := Fr.tr fr1 fM40 fi_31
      have q99_0_M4 : (M4 99 0 = M 99 0) := eM4_99_0.trans q99_0
      have q99_1_M4 : (M4 99 1 = M 99 1) := eM4_99_1.trans q99_1
      have q99_2_M4 : (M4 99 2 = M 99 2) := eM4_99_2.trans q99_2
      have q99_3_M4 : (M4 99 3 = M 99 3) := eM4_99_3.trans q99_3
      have q100_0_M4 : id (M4 100 0 = M 100 0) := eM4_100_0.trans q100_0
      have q100_1_M4 : id (M4 100 1 = M 100 1) := eM4_100_1.trans q100_1
      have q100_2_M4 : id (M4 100 2 = M 100 2) := eM4_100_2.trans q100_2
      have q100_3_M4 : id (M4 100 3 = M 100 3) := eM4_100_3.trans q100_3
      have q100_49_M4 : id (M4 100 49 = M 100 49) := eM4_100_49.trans q100_49
      have q100_50_M4 : id (M4 100 50 = M 100 50) := eM4_100_50.trans q100_50
      have q100_51_M4 : id (M4 100 51 = M 100 51) := eM4_100_51.trans q100_51
      have q100_52_M4 : id (M4 100 52 = M 100 52) := eM4_100_52.trans q100_52
      have q103_0_M4 : id (M4 103 0 = M 103 0) := eM4_103_0.trans q103_0
      have q103_1_M4 : id (M4 103 1 = M 103 1) := eM4_103_1.trans q103_1
      have q97_17_M4 : (M4 97 17 = M 97 17) := eM4_97_17.trans q97_17
      have q97_33_M4 : (M4 97 33 = M 97 33) := eM4_97_33.trans q97_33
      have q97_44_M4 : (M4 97 44 = M 97 44) := eM4_97_44.trans q97_44
      have wM4_97_12 : M4 97 12 = M1 97 12 := eM4_97_12
      have wM4_97_10 : M4 97 10 = M1 97 10 := eM4_97_10
      clear eM4_100_0 eM4_100_1 eM4_100_2 eM4_100_3 eM4_100_49 eM4_100_50 eM4_100_51 eM4_100_52 eM4_103_0 eM4_103_1
      obtain ⟨anM4, asM4, a98M4⟩ := pM4
      rw [k98] at a98M4
      subst anM4
      have e101 : M4 101 = M1 101 := fM40 101 (by decide)
      refine g_ireturn dX10_row_131 ?_
      exact ⟨iM4, fM4, q99_0_M4, q99_1_M4, q99_2_M4, q99_3_M4, q100_0_M4, q100_1_M4, q100_2_M4, q100_3_M4, q100_49_M4, q100_50_M4, q100_51_M4, q100_52_M4, q103_0_M4, q103_1_M4, q97_17_M4, q97_33_M4, q97_44_M4, by omega, ⟨fun q => absurd q (by omega), fun _ => ⟨by rw [show M 97 12 - 1 = k - 1 by omega]; exact hcm, by omega, by rw [show M 97 12 - 1 = k - 1 by omega]; exact e101.trans k101⟩⟩, by omega, asM4, a98M4⟩
    · refine g_iload_n (pc' := 54) 2 dX10_row_53 rfl rfl ?_
      refine g_iconst (pc' := 55) dX10_row_54 rfl ?_
      refine g_ic_ge (pc' := 58) (tgt := 74) ⟨by omega, by omega⟩ (by decide) dX10_row_55 rfl rfl (fun c5 => ?_) (fun c5 => ?_)
      · refine g_iconst (pc' := 75) dX10_row_74 rfl ?_
        refine g_istore (pc' := 77) (L' := [(4, vi 0), (1, vi hd), (2, vi cm), (3, vi k), (0, vr X 97)]) dX10_row_75 rfl (by decide) rfl ?_
        refine g_iload (pc' := 79) 0 dX10_row_77 rfl rfl ?_
        refine g_if_eq (pc' := 82) (tgt := 110) (by decide) dX10_row_79 rfl rfl (fun c6 => ?_) (fun c6 => ?_)
        · refine g_aload_n (pc' := 111) 4 dX10_row_110 rfl rfl ?_
          refine g_dup (pc' := 112) dX10_row_111 rfl rfl ?_
          refine g_getI (pc' := 115) dX10_row_112 rfl f_X10_145 rfl rfl (fun v7 ev7 rv7 => ?_)
          refine g_iconst (pc' := 116) dX10_row_115 rfl ?_
          refine g_iadd (pc' := 117) dX10_row_116 rfl ?_
          refine g_putI (pc' := 120) dX10_row_117 rfl p_X10_145 rfl rfl ⟨by omega, by omega⟩ (fun M8 hM8 => ?_)
          have iM8 : IM M8 := IM.wr ic1 hM8 (by unfold okv; first | decide | omega)
          have fM8 : Fr (fun c => c = 97 ∨ c = 98 ∨ c = 101) M M8 := Fr.wr fr1 hM8 (by first | decide | omega | (dsimp only; omega))
          have q99_0_M8 : (M8 99 0 = M 99 0) := (show M8 99 0 = M1 99 0 by rw [hM8]; exact mu_ne _ _ (by first | decide | omega)).trans q99_0
          have q99_1_M8 : (M8 99 1 = M 99 1) := (show M8 99 1 = M1 99 1 by rw [hM8]; exact mu_ne _ _ (by first | decide | omega)).trans q99_1
          have q99_2_M8 : (M8 99 2 = M 99 2) := (show M8 99 2 = M1 99 2 by rw [hM8]; exact mu_ne _ _ (by first | decide | omega)).trans q99_2
          have q99_3_M8 : (M8 99 3 = M 99 3) := (show M8 99 3 = M1 99 3 by rw [hM8]; exact mu_ne _ _ (by first | decide | omega)).trans q99_3
          have q100_0_M8 : id (M8 100 0 = M 100 0) := (show M8 100 0 = M1 100 0 by rw [hM8]; exact mu_ne _ _ (by first | decide | omega)).trans q100_0
          have q100_1_M8 : id (M8 100 1 = M 100 1) := (show M8 100 1 = M1 100 1 by rw [hM8]; exact mu_ne _ _ (by first | decide | omega)).trans q100_1
          have q100_2_M8 : id (M8 100 2 = M 100 2) := (show M8 100 2 = M1 100 2 by rw [hM8]; exact mu_ne _ _ (by first | decide | omega)).trans q100_2
          have q100_3_M8 : id (M8 100 3 = M 100 3) := (show M8 100 3 = M1 100 3 by rw [hM8]; exact mu_ne _ _ (by first | decide | omega)).trans q100_3
          have q100_49_M8 : id (M8 100 49 = M 100 49) := (show M8 100 49 = M1 100 49 by rw [hM8]; exact mu_ne _ _ (by first | decide | omega)).trans q100_49
          have q100_50_M8 : id (M8 100 50 = M 100 50) := (show M8 100 50 = M1 100 50 by rw [hM8]; exact mu_ne _ _ (by first | decide | omega)).trans q100_50
          have q100_51_M8 : id (M8 100 51 = M 100 51) := (show M8 100 51 = M1 100 51 by rw [hM8]; exact mu_ne _ _ (by first | decide | omega)).trans q100_51
          have q100_52_M8 : id (M8 100 52 = M 100 52) := (show M8 100 52 = M1 100 52 by rw [hM8]; exact mu_ne _ _ (by first | decide | omega)).trans q100_52
          have q103_0_M8 : id (M8 103 0 = M 103 0) := (show M8 103 0 = M1 103 0 by rw [hM8]; exact mu_ne _ _ (by first | decide | omega)).trans q103_0
          have q103_1_M8 : id (M8 103 1 = M 103 1) := (show M8 103 1 = M1 103 1 by rw [hM8]; exact mu_ne _ _ (by first | decide | omega)).trans q103_1
          have q97_17_M8 : (M8 97 17 = M 97 17) := (show M8 97 17 = M1 97 17 by rw [hM8]; exact mu_ne _ _ (by first | decide | omega)).trans q97_17
          have q97_33_M8 : (M8 97 33 = M 97 33) := (show M8 97 33 = M1 97 33 by rw [hM8]; exact mu_ne _ _ (by first | decide | omega)).trans q97_33
          have q97_44_M8 : (M8 97 44 = M 97 44) := (show M8 97 44 = M1 97 44 by rw [hM8]; exact mu_ne _ _ (by first | decide | omega)).trans q97_44
          have q97_1_M8 : (M8 97 1 = M 97 1) := (show M8 97 1 = M1 97 1 by rw [hM8]; exact mu_ne _ _ (by first | decide | omega)).trans q97_1
          have wM8_97_12 : M8 97 12 = M1 97 12 := by rw [hM8]; exact mu_ne _ _ (by first | decide | omega)
          have xM8_97_10 : M8 97 10 = v7 + 1 := by rw [hM8]; exact mu_at _ _ _ _
          have c98M8 : M8 98 = M 98 := (show M8 98 = M1 98 by rw [hM8]; exact mu_cell _ _ (by decide)).trans k98
          have c99M8 : M8 99 = M 99 := (show M8 99 = M1 99 by rw [hM8]; exact mu_cell _ _ (by decide)).trans k99
          have x101M8 := (show M8 101 = M1 101 by rw [hM8]; exact mu_cell _ _ (by decide)).trans k101
          refine g_iinc (pc' := 123) (L' := [(3, vi (k + 1)), (4, vi 0), (1, vi hd), (2, vi cm), (0, vr X 97)]) 3 dX10_row_120 rfl rfl (by decide) rfl ?_
          refine g_goto (tgt := 48) dX10_row_123 rfl ?_
          refine g_sub [2, 3, 0, 4] rfl ?_
          exact ih _ (by omega) hd cm (k + 1) M8 iM8 fM8 q99_0_M8 q99_1_M8 q99_2_M8 q99_3_M8 q100_0_M8 q100_1_M8 q100_2_M8 q100_3_M8 q100_49_M8 q100_50_M8 q100_51_M8 q100_52_M8 q103_0_M8 q103_1_M8 q97_17_M8 q97_33_M8 q97_44_M8 q97_1_M8 (by omega) (by omega) (by omega) (by omega) (by omega) c98M8 c99M8 (x101M8.trans (by rw [show (k + 1 - 1).toNat = (k - 1).toNat + 1 by omega, (rw_n (z := (fun j => M 99 (4 + j))) (T := M 106) (g := M 106 0) (m := M 101) (i := (k - 1).toNat) (by rw [show (k - 1).toNat + 1 = k.toNat by omega]; omega)).1])) (by rw [show (k + 1 - 1).toNat = (k - 1).toNat + 1 by omega, (rw_n (z := (fun j => M 99 (4 + j))) (T := M 106) (g := M 106 0) (m := M 101) (i := (k - 1).toNat) (by rw [show (k - 1).toNat + 1 = k.toNat by omega]; omega)).2]; exact hcm) rfl
        · exact absurd c6 (by omega)
      · refine g_aload_n (pc' := 59) 3 dX10_row_58 rfl rfl ?_
        refine g_getR (pc' := 62) dX10_row_59 rfl f_X10_36 rfl rfl ?_
        refine g_iload_n (pc' := 63) 2 dX10_row_62 rfl rfl ?_
        refine g_iald (pc' := 64) dX10_row_63 rfl rfl (by omega) (by omega) (fun v9 ev9 rv9 => ?_)
        have kv9 : v9 = M 106 k.toNat := by rw [ev9, fr1 106 (by decide)]
        refine g_callSip (pc' := 67) (As := [vi v9]) (S := []) dX10_row_64 rfl m_X10_95 w_X10_isAmount (c_X10_isAmount X M1 v9 rv9) rfl (by decide) (by decide) rfl (Nat.le_of_ble_eq_true rfl) (fun z11 q10 => ?_)
        refine g_if_eq (pc' := 70) (tgt := 74) ⟨by omega, by omega⟩ dX10_row_67 rfl rfl (fun c12 => ?_) (fun c12 => ?_)
        · replace q10 := q10.resolve_left (fun h => absurd (c12.symm.trans h.1) (by decide))
          refine g_iconst (pc' := 75) dX10_row_74 rfl ?_
          refine g_istore (pc' := 77) (L' := [(4, vi 0), (1, vi hd), (2, vi cm), (3, vi k), (0, vr X 97)]) dX10_row_75 rfl (by decide) rfl ?_
          refine g_iload (pc' := 79) 0 dX10_row_77 rfl rfl ?_
          refine g_if_eq (pc' := 82) (tgt := 110) (by decide) dX10_row_79 rfl rfl (fun c13 => ?_) (fun c13 => ?_)
          · refine g_aload_n (pc' := 111) 4 dX10_row_110 rfl rfl ?_
            refine g_dup (pc' := 112) dX10_row_111 rfl rfl ?_
            refine g_getI (pc' := 115) dX10_row_112 rfl f_X10_145 rfl rfl (fun v14 ev14 rv14 => ?_)
            refine g_iconst (pc' := 116) dX10_row_115 rfl ?_
            refine g_iadd (pc' := 117) dX10_row_116 rfl ?_
            refine g_putI (pc' := 120) dX10_row_117 rfl p_X10_145 rfl rfl ⟨by omega, by omega⟩ (fun M15 hM15 => ?_)
            have iM15 : IM M15 := IM.wr ic1 hM15 (by unfold okv; first | decide | omega)
            have fM15 : Fr (fun c => c = 97 ∨ c = 98 ∨ c = 101) M M15 := Fr.wr fr1 hM15 (by first | decide | omega | (dsimp only; omega))
            have q99_0_M15 : (M15 99 0 = M 99 0) := (show M15 99 0 = M1 99 0 by rw [hM15]; exact mu_ne _ _ (by first | decide | omega)).trans q99_0
            have q99_1_M15 : (M15 99 1 = M 99 1) := (show M15 99 1 = M1 99 1 by rw [hM15]; exact mu_ne _ _ (by first | decide | omega)).trans q99_1
            have q99_2_M15 : (M15 99 2 = M 99 2) := (show M15 99 2 = M1 99 2 by rw [hM15]; exact mu_ne _ _ (by first | decide | omega)).trans q99_2
            have q99_3_M15 : (M15 99 3 = M 99 3) := (show M15 99 3 = M1 99 3 by rw [hM15]; exact mu_ne _ _ (by first | decide | omega)).trans q99_3
            have q100_0_M15 : id (M15 100 0 = M 100 0) := (show M15 100 0 = M1 100 0 by rw [hM15]; exact mu_ne _ _ (by first | decide | omega)).trans q100_0
            have q100_1_M15 : id (M15 100 1 = M 100 1) := (show M15 100 1 = M1 100 1 by rw [hM15]; exact mu_ne _ _ (by first | decide | omega)).trans q100_1
            have q100_2_M15 : id (M15 100 2 = M 100 2) := (show M15 100 2 = M1 100 2 by rw [hM15]; exact mu_ne _ _ (by first | decide | omega)).trans q100_2
            have q100_3_M15 : id (M15 100 3 = M 100 3) := (show M15 100 3 = M1 100 3 by rw [hM15]; exact mu_ne _ _ (by first | decide | omega)).trans q100_3
            have q100_49_M15 : id (M15 100 49 = M 100 49) := (show M15 100 49 = M1 100 49 by rw [hM15]; exact mu_ne _ _ (by first | decide | omega)).trans q100_49
            have q100_50_M15 : id (M15 100 50 = M 100 50) := (show M15 100 50 = M1 100 50 by rw [hM15]; exact mu_ne _ _ (by first | decide | omega)).trans q100_50
            have q100_51_M15 : id (M15 100 51 = M 100 51) := (show M15 100 51 = M1 100 51 by rw [hM15]; exact mu_ne _ _ (by first | decide | omega)).trans q100_51
            have q100_52_M15 : id (M15 100 52 = M 100 52) := (show M15 100 52 = M1 100 52 by rw [hM15]; exact mu_ne _ _ (by first | decide | omega)).trans q100_52
            have q103_0_M15 : id (M15 103 0 = M 103 0) := (show M15 103 0 = M1 103 0 by rw [hM15]; exact mu_ne _ _ (by first | decide | omega)).trans q103_0
            have q103_1_M15 : id (M15 103 1 = M 103 1) := (show M15 103 1 = M1 103 1 by rw [hM15]; exact mu_ne _ _ (by first | decide | omega)).trans q103_1
            have q97_17_M15 : (M15 97 17 = M 97 17) := (show M15 97 17 = M1 97 17 by rw [hM15]; exact mu_ne _ _ (by first | decide | omega)).trans q97_17
            have q97_33_M15 : (M15 97 33 = M 97 33) := (show M15 97 33 = M1 97 33 by rw [hM15]; exact mu_ne _ _ (by first | decide | omega)).trans q97_33
            have q97_44_M15 : (M15 97 44 = M 97 44) := (show M15 97 44 = M1 97 44 by rw [hM15]; exact mu_ne _ _ (by first | decide | omega)).trans q97_44
            have q97_1_M15 : (M15 97 1 = M 97 1) := (show M15 97 1 = M1 97 1 by rw [hM15]; exact mu_ne _ _ (by first | decide | omega)).trans q97_1
            have wM15_97_12 : M15 97 12 = M1 97 12 := by rw [hM15]; exact mu_ne _ _ (by first | decide | omega)
            have xM15_97_10 : M15 97 10 = v14 + 1 := by rw [hM15]; exact mu_at _ _ _ _
            have c98M15 : M15 98 = M 98 := (show M15 98 = M1 98 by rw [hM15]; exact mu_cell _ _ (by decide)).trans k98
            have c99M15 : M15 99 = M 99 := (show M15 99 = M1 99 by rw [hM15]; exact mu_cell _ _ (by decide)).trans k99
            have x101M15 := (show M15 101 = M1 101 by rw [hM15]; exact mu_cell _ _ (by decide)).trans k101
            refine g_iinc (pc' := 123) (L' := [(3, vi (k + 1)), (4, vi 0), (1, vi hd), (2, vi cm), (0, vr X 97)]) 3 dX10_row_120 rfl rfl (by decide) rfl ?_
            refine g_goto (tgt := 48) dX10_row_123 rfl ?_
            refine g_sub [2, 3, 0, 4] rfl ?_
            exact ih _ (by omega) hd cm (k + 1) M15 iM15 fM15 q99_0_M15 q99_1_M15 q99_2_M15 q99_3_M15 q100_0_M15 q100_1_M15 q100_2_M15 q100_3_M15 q100_49_M15 q100_50_M15 q100_51_M15 q100_52_M15 q103_0_M15 q103_1_M15 q97_17_M15 q97_33_M15 q97_44_M15 q97_1_M15 (by omega) (by omega) (by omega) (by omega) (by omega) c98M15 c99M15 (x101M15.trans (by rw [show (k + 1 - 1).toNat = (k - 1).toNat + 1 by omega, (rw_n (z := (fun j => M 99 (4 + j))) (T := M 106) (g := M 106 0) (m := M 101) (i := (k - 1).toNat) (by rw [show (k - 1).toNat + 1 = k.toNat by omega]; omega)).1])) (by rw [show (k + 1 - 1).toNat = (k - 1).toNat + 1 by omega, (rw_n (z := (fun j => M 99 (4 + j))) (T := M 106) (g := M 106 0) (m := M 101) (i := (k - 1).toNat) (by rw [show (k - 1).toNat + 1 = k.toNat by omega]; omega)).2]; exact hcm) rfl
          · exact absurd c13 (by omega)
        · replace q10 := q10.resolve_right (fun h => c12 h.1)
          refine g_iconst (pc' := 71) dX10_row_70 rfl ?_
          refine g_goto (tgt := 75) dX10_row_71 rfl ?_
          refine g_istore (pc' := 77) (L' := [(4, vi 1), (1, vi hd), (2, vi cm), (3, vi k), (0, vr X 97)]) dX10_row_75 rfl (by decide) rfl ?_
          refine g_iload (pc' := 79) 0 dX10_row_77 rfl rfl ?_
          refine g_if_eq (pc' := 82) (tgt := 110) (by decide) dX10_row_79 rfl rfl (fun c16 => ?_) (fun c16 => ?_)
          · exact absurd c16 (by omega)
          · refine g_aload_n (pc' := 83) 4 dX10_row_82 rfl rfl ?_
            refine g_aload_n (pc' := 84) 4 dX10_row_83 rfl rfl ?_
            refine g_getR (pc' := 87) dX10_row_84 rfl f_X10_36 rfl rfl ?_
            refine g_iconst (pc' := 88) dX10_row_87 rfl ?_
            refine g_iald (pc' := 89) dX10_row_88 rfl rfl (by decide) (by decide) (fun v17 ev17 rv17 => ?_)
            have ev17 : v17 = M1 106 0 := ev17
            have kv17 : v17 = M 106 0 := by rw [ev17, fr1 106 (by decide)]
            refine g_iload_n (pc' := 90) 3 dX10_row_89 rfl rfl ?_
            refine g_iconst (pc' := 91) dX10_row_90 rfl ?_
            refine g_isub (pc' := 92) dX10_row_91 rfl ?_
            refine g_aload_n (pc' := 93) 4 dX10_row_92 rfl rfl ?_
            refine g_getR (pc' := 96) dX10_row_93 rfl f_X10_36 rfl rfl ?_
            refine g_iload_n (pc' := 97) 3 dX10_row_96 rfl rfl ?_
            refine g_iald (pc' := 98) dX10_row_97 rfl rfl (by omega) (by omega) (fun v18 ev18 rv18 => ?_)
            obtain rfl : v9 = v18 := ev9.trans ev18.symm
            refine g_callVi (pc' := 101) (As := [vi v17, vi (k - 1), vi v9]) (b := 97) (S := []) dX10_row_98 rfl m_X10_135 w_X10_filled (c_X10_filled_x X M1 ic1 v17 rv17 (k - 1) ⟨by omega, by omega⟩ v9 rv9 (by omega) (by omega) (by omega)) rfl ⟨_, _, _, rfl, rfl, rfl⟩ (by decide) (by decide) rfl (Nat.le_of_ble_eq_true rfl) (fun z20 M21 q19 => ?_)
            obtain ⟨iM21, fM210, pM21⟩ := q19
            have fM21 : Fr (fun c => c = 97 ∨ c = 98 ∨ c = 101) M M21 := Fr.tr fr1 fM210 fi_32
            have q99_0_M21 : (M21 99 0 = M 99 0) := (congrFun (fM210 99 (by first | decide | omega | (dsimp only; omega))) 0).trans q99_0
            have q99_1_M21 : (M21 99 1 = M 99 1) := (congrFun (fM210 99 (by first | decide | omega | (dsimp only; omega))) 1).trans q99_1
            have q99_2_M21 : (M21 99 2 = M 99 2) := (congrFun (fM210 99 (by first | decide | omega | (dsimp only; omega))) 2).trans q99_2
            have q99_3_M21 : (M21 99 3 = M 99 3) := (congrFun (fM210 99 (by first | decide | omega | (dsimp only; omega))) 3).trans q99_3
            have q100_0_M21 : id (M21 100 0 = M 100 0) := (congrFun (fM210 100 (by first | decide | omega | (dsimp only; omega))) 0).trans q100_0
            have q100_1_M21 : id (M21 100 1 = M 100 1) := (congrFun (fM210 100 (by first | decide | omega | (dsimp only; omega))) 1).trans q100_1
            have q100_2_M21 : id (M21 100 2 = M 100 2) := (congrFun (fM210 100 (by first | decide | omega | (dsimp only; omega))) 2).trans q100_2
            have q100_3_M21 : id (M21 100 3 = M 100 3) := (congrFun (fM210 100 (by first | decide | omega | (dsimp only; omega))) 3).trans q100_3
            have q100_49_M21 : id (M21 100 49 = M 100 49) := (congrFun (fM210 100 (by first | decide | omega | (dsimp only; omega))) 49).trans q100_49
            have q100_50_M21 : id (M21 100 50 = M 100 50) := (congrFun (fM210 100 (by first | decide | omega | (dsimp only; omega))) 50).trans q100_50
            have q100_51_M21 : id (M21 100 51 = M 100 51) := (congrFun (fM210 100 (by first | decide | omega | (dsimp only; omega))) 51).trans q100_51
            have q100_52_M21 : id (M21 100 52 = M 100 52) := (congrFun (fM210 100 (by first | decide | omega | (dsimp only; omega))) 52).trans q100_52
            have q103_0_M21 : id (M21 103 0 = M 103 0) := (congrFun (fM210 103 (by first | decide | omega | (dsimp only; omega))) 0).trans q103_0
            have q103_1_M21 : id (M21 103 1 = M 103 1) := (congrFun (fM210 103 (by first | decide | omega | (dsimp only; omega))) 1).trans q103_1
            have q97_17_M21 : (M21 97 17 = M 97 17) := (congrFun (fM210 97 (by first | decide | omega | (dsimp only; omega))) 17).trans q97_17
            have q97_33_M21 : (M21 97 33 = M 97 33) := (congrFun (fM210 97 (by first | decide | omega | (dsimp only; omega))) 33).trans q97_33
            have q97_44_M21 : (M21 97 44 = M 97 44) := (congrFun (fM210 97 (by first | decide | omega | (dsimp only; omega))) 44).trans q97_44
            have q97_1_M21 : (M21 97 1 = M 97 1) := (congrFun (fM210 97 (by first | decide | omega | (dsimp only; omega))) 1).trans q97_1
            have wM21_97_12 : M21 97 12 = M1 97 12 := (congrFun (fM210 97 (by first | decide | omega | (dsimp only; omega))) 12)
            have wM21_97_10 : M21 97 10 = M1 97 10 := (congrFun (fM210 97 (by first | decide | omega | (dsimp only; omega))) 10)
            have c98M21 : M21 98 = M 98 := (fM210 98 (by decide)).trans k98
            have c99M21 : M21 99 = M 99 := (fM210 99 (by decide)).trans k99
            have rrM21 := pM21.r
            rw [k101, k99, show v17 = M 106 0 by omega] at pM21
            obtain ⟨x101M21, rcM21⟩ := rw_f (k := (k - 1).toNat) pM21 (by omega) (by rw [show (k - 1).toNat + 1 = k.toNat by omega]; omega) (by omega)
            rw [show (k - 1).toNat + 1 = (k + 1 - 1).toNat by omega] at x101M21 rcM21
            refine g_if_ne (pc' := 104) (tgt := 110) ⟨by omega, by omega⟩ dX10_row_101 rfl rfl (fun c22 => ?_) (fun c22 => ?_)
            · refine g_aload_n (pc' := 111) 4 dX10_row_110 rfl rfl ?_
              refine g_dup (pc' := 112) dX10_row_111 rfl rfl ?_
              refine g_getI (pc' := 115) dX10_row_112 rfl f_X10_145 rfl rfl (fun v23 ev23 rv23 => ?_)
              refine g_iconst (pc' := 116) dX10_row_115 rfl ?_
              refine g_iadd (pc' := 117) dX10_row_116 rfl ?_
              refine g_putI (pc' := 120) dX10_row_117 rfl p_X10_145 rfl rfl ⟨by omega, by omega⟩ (fun M24 hM24 => ?_)
              have iM24 : IM M24 := IM.wr iM21 hM24 (by unfold okv; first | decide | omega)
              have fM24 : Fr (fun c => c = 97 ∨ c = 98 ∨ c = 101) M M24 := Fr.wr fM21 hM24 (by first | decide | omega | (dsimp only; omega))
              have q99_0_M24 : (M24 99 0 = M 99 0) := (show M24 99 0 = M21 99 0 by rw [hM24]; exact mu_ne _ _ (by first | decide | omega)).trans q99_0_M21
              have q99_1_M24 : (M24 99 1 = M 99 1) := (show M24 99 1 = M21 99 1 by rw [hM24]; exact mu_ne _ _ (by first | decide | omega)).trans q99_1_M21
              have q99_2_M24 : (M24 99 2 = M 99 2) := (show M24 99 2 = M21 99 2 by rw [hM24]; exact mu_ne _ _ (by first | decide | omega)).trans q99_2_M21
              have q99_3_M24 : (M24 99 3 = M 99 3) := (show M24 99 3 = M21 99 3 by rw [hM24]; exact mu_ne _ _ (by first | decide | omega)).trans q99_3_M21
              have q100_0_M24 : id (M24 100 0 = M 100 0) := (show M24 100 0 = M21 100 0 by rw [hM24]; exact mu_ne _ _ (by first | decide | omega)).trans q100_0_M21
              have q100_1_M24 : id (M24 100 1 = M 100 1) := (show M24 100 1 = M21 100 1 by rw [hM24]; exact mu_ne _ _ (by first | decide | omega)).trans q100_1_M21
              have q100_2_M24 : id (M24 100 2 = M 100 2) := (show M24 100 2 = M21 100 2 by rw [hM24]; exact mu_ne _ _ (by first | decide | omega)).trans q100_2_M21
              have q100_3_M24 : id (M24 100 3 = M 100 3) := (show M24 100 3 = M21 100 3 by rw [hM24]; exact mu_ne _ _ (by first | decide | omega)).trans q100_3_M21
              have q100_49_M24 : id (M24 100 49 = M 100 49) := (show M24 100 49 = M21 100 49 by rw [hM24]; exact mu_ne _ _ (by first | decide | omega)).trans q100_49_M21
              have q100_50_M24 : id (M24 100 50 = M 100 50) := (show M24 100 50 = M21 100 50 by rw [hM24]; exact mu_ne _ _ (by first | decide | omega)).trans q100_50_M21
              have q100_51_M24 : id (M24 100 51 = M 100 51) := (show M24 100 51 = M21 100 51 by rw [hM24]; exact mu_ne _ _ (by first | decide | omega)).trans q100_51_M21
              have q100_52_M24 : id (M24 100 52 = M 100 52) := (show M24 100 52 = M21 100 52 by rw [hM24]; exact mu_ne _ _ (by first | decide | omega)).trans q100_52_M21
              have q103_0_M24 : id (M24 103 0 = M 103 0) := (show M24 103 0 = M21 103 0 by rw [hM24]; exact mu_ne _ _ (by first | decide | omega)).trans q103_0_M21
              have q103_1_M24 : id (M24 103 1 = M 103 1) := (show M24 103 1 = M21 103 1 by rw [hM24]; exact mu_ne _ _ (by first | decide | omega)).trans q103_1_M21
              have q97_17_M24 : (M24 97 17 = M 97 17) := (show M24 97 17 = M21 97 17 by rw [hM24]; exact mu_ne _ _ (by first | decide | omega)).trans q97_17_M21
              have q97_33_M24 : (M24 97 33 = M 97 33) := (show M24 97 33 = M21 97 33 by rw [hM24]; exact mu_ne _ _ (by first | decide | omega)).trans q97_33_M21
              have q97_44_M24 : (M24 97 44 = M 97 44) := (show M24 97 44 = M21 97 44 by rw [hM24]; exact mu_ne _ _ (by first | decide | omega)).trans q97_44_M21
              have q97_1_M24 : (M24 97 1 = M 97 1) := (show M24 97 1 = M21 97 1 by rw [hM24]; exact mu_ne _ _ (by first | decide | omega)).trans q97_1_M21
              have wM24_97_12 : M24 97 12 = M21 97 12 := by rw [hM24]; exact mu_ne _ _ (by first | decide | omega)
              have xM24_97_10 : M24 97 10 = v23 + 1 := by rw [hM24]; exact mu_at _ _ _ _
              have c98M24 : M24 98 = M 98 := (show M24 98 = M21 98 by rw [hM24]; exact mu_cell _ _ (by decide)).trans c98M21
              have c99M24 : M24 99 = M 99 := (show M24 99 = M21 99 by rw [hM24]; exact mu_cell _ _ (by decide)).trans c99M21
              have x101M24 := (show M24 101 = M21 101 by rw [hM24]; exact mu_cell _ _ (by decide)).trans x101M21
              refine g_iinc (pc' := 123) (L' := [(3, vi (k + 1)), (4, vi 1), (1, vi hd), (2, vi cm), (0, vr X 97)]) 3 dX10_row_120 rfl rfl (by decide) rfl ?_
              refine g_goto (tgt := 48) dX10_row_123 rfl ?_
              refine g_sub [2, 3, 0, 4] rfl ?_
              exact ih _ (by omega) hd cm (k + 1) M24 iM24 fM24 q99_0_M24 q99_1_M24 q99_2_M24 q99_3_M24 q100_0_M24 q100_1_M24 q100_2_M24 q100_3_M24 q100_49_M24 q100_50_M24 q100_51_M24 q100_52_M24 q103_0_M24 q103_1_M24 q97_17_M24 q97_33_M24 q97_44_M24 q97_1_M24 (by omega) (by omega) (by omega) (by omega) (by omega) c98M24 c99M24 x101M24 (by omega) rfl
            · refine g_iinc (pc' := 107) (L' := [(2, vi (cm + 1)), (4, vi 1), (1, vi hd), (3, vi k), (0, vr X 97)]) 2 dX10_row_104 rfl rfl (by decide) rfl ?_
              refine g_goto (tgt := 120) dX10_row_107 rfl ?_
              refine g_iinc (pc' := 123) (L' := [(3, vi (k + 1)), (2, vi (cm + 1)), (4, vi 1), (1, vi hd), (0, vr X 97)]) 3 dX10_row_120 rfl rfl (by decide) rfl ?_
              refine g_goto (tgt := 48) dX10_row_123 rfl ?_
              refine g_sub [3, 1, 0, 4] rfl ?_
              exact ih _ (by omega) hd (cm + 1) (k + 1) M21 iM21 fM21 q99_0_M21 q99_1_M21 q99_2_M21 q99_3_M21 q100_0_M21 q100_1_M21 q100_2_M21 q100_3_M21 q100_49_M21 q100_50_M21 q100_51_M21 q100_52_M21 q103_0_M21 q103_1_M21 q97_17_M21 q97_33_M21 q97_44_M21 q97_1_M21 (by omega) (by omega) (by omega) (by omega) (by omega) c98M21 c99M21 x101M21 (by omega) rfl
set_option maxHeartbeats 4000000 in
set_option maxRecDepth 100000 in
theorem c_X10_row_x (X : Cx) (M : Mm) (hi : IM M) : Con X 12 yX10_row cX10_row 5 (some .int) [vr X 97] M (Qi (fun r M1 => IM M1 ∧ Fr (fun c => c = 97 ∨ c = 98 ∨ c = 101) M M1 ∧ M1 99 0 = M 99 0 ∧ M1 99 1 = M 99 1 ∧ M1 99 2 = M 99 2 ∧ M1 99 3 = M 99 3 ∧ M1 100 0 = M 100 0 ∧ M1 100 1 = M 100 1 ∧ M1 100 2 = M 100 2 ∧ M1 100 3 = M 100 3 ∧ M1 100 49 = M 100 49 ∧ M1 100 50 = M 100 50 ∧ M1 100 51 = M 100 51 ∧ M1 100 52 = M 100 52 ∧ M1 103 0 = M 103 0 ∧ M1 103 1 = M 103 1 ∧ M1 97 17 = M 97 17 ∧ M1 97 33 = M 97 33 ∧ M1 97 44 = M 97 44 ∧ ((-6 ≤ r ∧ r ≤ 400) ∧ RWQ (M 99 0) (fun j => M 99 (4 + j)) (M 106) (M 101) (M 97 12) (M 97 10) r (M1 97 10) (M1 101) ∧ M1 97 12 = 0 ∧ M1 97 1 = ngv r ∧ M1 98 = telF (M 98) r))) := by
  refine Con.ofG rfl (Nat.le_of_ble_eq_true rfl) ?_
  show G X 12 RX10 cX10_row 5 (some .int) (Qi (fun r M1 => IM M1 ∧ Fr (fun c => c = 97 ∨ c = 98 ∨ c = 101) M M1 ∧ M1 99 0 = M 99 0 ∧ M1 99 1 = M 99 1 ∧ M1 99 2 = M 99 2 ∧ M1 99 3 = M 99 3 ∧ M1 100 0 = M 100 0 ∧ M1 100 1 = M 100 1 ∧ M1 100 2 = M 100 2 ∧ M1 100 3 = M 100 3 ∧ M1 100 49 = M 100 49 ∧ M1 100 50 = M 100 50 ∧ M1 100 51 = M 100 51 ∧ M1 100 52 = M 100 52 ∧ M1 103 0 = M 103 0 ∧ M1 103 1 = M 103 1 ∧ M1 97 17 = M 97 17 ∧ M1 97 33 = M 97 33 ∧ M1 97 44 = M 97 44 ∧ ((-6 ≤ r ∧ r ≤ 400) ∧ RWQ (M 99 0) (fun j => M 99 (4 + j)) (M 106) (M 101) (M 97 12) (M 97 10) r (M1 97 10) (M1 101) ∧ M1 97 12 = 0 ∧ M1 97 1 = ngv r ∧ M1 98 = telF (M 98) r))) 0 [(0, vr X 97)] [] M
  have p0 := hi.1.1
  have p1 := hi.1.2.1
  have p2 := hi.1.2.2.1
  have p3 := hi.1.2.2.2.1
  have p12 := hi.2.2.2.1
  refine g_aload_n (pc' := 1) 0 dX10_row_0 rfl rfl ?_
  refine g_iconst (pc' := 2) dX10_row_1 rfl ?_
  refine g_putI (pc' := 5) dX10_row_2 rfl p_X10_77 rfl rfl (by decide) (fun M1 hM1 => ?_)
  have iM1 : IM M1 := IM.wr hi hM1 (by unfold okv; first | decide | omega)
  have fM1 : Fr (fun c => c = 97 ∨ c = 98 ∨ c = 101) M M1 := Fr.wr Fr.rf hM1 (by first | decide | omega | (dsimp only; omega))
  have q99_0_M1 : (M1 99 0 = M 99 0) := (show M1 99 0 = M 99 0 by rw [hM1]; exact mu_ne _ _ (by first | decide | omega))
  have q99_1_M1 : (M1 99 1 = M 99 1) := (show M1 99 1 = M 99 1 by rw [hM1]; exact mu_ne _ _ (by first | decide | omega))
  have q99_2_M1 : (M1 99 2 = M 99 2) := (show M1 99 2 = M 99 2 by rw [hM1]; exact mu_ne _ _ (by first | decide | omega))
  have q99_3_M1 : (M1 99 3 = M 99 3) := (show M1 99 3 = M 99 3 by rw [hM1]; exact mu_ne _ _ (by first | decide | omega))
  have q100_0_M1 : id (M1 100 0 = M 100 0) := (show M1 100 0 = M 100 0 by rw [hM1]; exact mu_ne _ _ (by first | decide | omega))
  have q100_1_M1 : id (M1 100 1 = M 100 1) := (show M1 100 1 = M 100 1 by rw [hM1]; exact mu_ne _ _ (by first | decide | omega))
  have q100_2_M1 : id (M1 100 2 = M 100 2) := (show M1 100 2 = M 100 2 by rw [hM1]; exact mu_ne _ _ (by first | decide | omega))
  have q100_3_M1 : id (M1 100 3 = M 100 3) := (show M1 100 3 = M 100 3 by rw [hM1]; exact mu_ne _ _ (by first | decide | omega))
  have q100_49_M1 : id (M1 100 49 = M 100 49) := (show M1 100 49 = M 100 49 by rw [hM1]; exact mu_ne _ _ (by first | decide | omega))
  have q100_50_M1 : id (M1 100 50 = M 100 50) := (show M1 100 50 = M 100 50 by rw [hM1]; exact mu_ne _ _ (by first | decide | omega))
  have q100_51_M1 : id (M1 100 51 = M 100 51) := (show M1 100 51 = M 100 51 by rw [hM1]; exact mu_ne _ _ (by first | decide | omega))
  have q100_52_M1 : id (M1 100 52 = M 100 52) := (show M1 100 52 = M 100 52 by rw [hM1]; exact mu_ne _ _ (by first | decide | omega))
  have q103_0_M1 : id (M1 103 0 = M 103 0) := (show M1 103 0 = M 103 0 by rw [hM1]; exact mu_ne _ _ (by first | decide | omega))
  have q103_1_M1 : id (M1 103 1 = M 103 1) := (show M1 103 1 = M 103 1 by rw [hM1]; exact mu_ne _ _ (by first | decide | omega))
  have q97_17_M1 : (M1 97 17 = M 97 17) := (show M1 97 17 = M 97 17 by rw [hM1]; exact mu_ne _ _ (by first | decide | omega))
  have q97_33_M1 : (M1 97 33 = M 97 33) := (show M1 97 33 = M 97 33 by rw [hM1]; exact mu_ne _ _ (by first | decide | omega))
  have q97_44_M1 : (M1 97 44 = M 97 44) := (show M1 97 44 = M 97 44 by rw [hM1]; exact mu_ne _ _ (by first | decide | omega))
  have q97_12_M1 : (M1 97 12 = M 97 12) := (show M1 97 12 = M 97 12 by rw [hM1]; exact mu_ne _ _ (by first | decide | omega))
  have q97_10_M1 : (M1 97 10 = M 97 10) := (show M1 97 10 = M 97 10 by rw [hM1]; exact mu_ne _ _ (by first | decide | omega))
  have q97_1_M1 : (M1 97 1 = M 97 1) := (show M1 97 1 = M 97 1 by rw [hM1]; exact mu_ne _ _ (by first | decide | omega))
  have wM1_97_12 : M1 97 12 = M 97 12 := by rw [hM1]; exact mu_ne _ _ (by first | decide | omega)
  have wM1_97_10 : M1 97 10 = M 97 10 := by rw [hM1]; exact mu_ne _ _ (by first | decide | omega)
  have xM1_97_0 : M1 97 0 = 0 := by rw [hM1]; exact mu_at _ _ _ _
  have c98M1 : M1 98 = M 98 := (by rw [hM1]; exact mu_cell _ _ (by decide))
  have c99M1 : M1 99 = M 99 := (by rw [hM1]; exact mu_cell _ _ (by decide))
  have c101M1 : M1 101 = M 101 := (by rw [hM1]; exact mu_cell _ _ (by decide))
  refine g_aload_n (pc' := 6) 0 dX10_row_5 rfl rfl ?_
  refine g_getI (pc' := 9) dX10_row_6 rfl f_X10_142 rfl rfl (fun v2 ev2 rv2 => ?_)
  have bv2 : 0 ≤ v2 ∧ v2 ≤ 400 := by rw [ev2]; exact iM1.2.2.2.1
  have av2 : v2 = M 97 12 := ev2.trans q97_12_M1
  refine g_istore_n (pc' := 10) (i := 1) (L' := [(1, vi v2), (0, vr X 97)]) dX10_row_9 rfl rfl (by decide) rfl ?_
  refine g_aload_n (pc' := 11) 1 dX10_row_10 rfl rfl ?_
  refine g_iconst (pc' := 12) dX10_row_11 rfl ?_
  refine g_putI (pc' := 15) dX10_row_12 rfl p_X10_142 rfl rfl (by decide) (fun M3 hM3 => ?_)
  have iM3 : IM M3 := IM.wr iM1 hM3 (by unfold okv; first | decide | omega)
  have fM3 : Fr (fun c => c = 97 ∨ c = 98 ∨ c = 101) M M3 := Fr.wr fM1 hM3 (by first | decide | omega | (dsimp only; omega))
  have q99_0_M3 : (M3 99 0 = M 99 0) := (show M3 99 0 = M1 99 0 by rw [hM3]; exact mu_ne _ _ (by first | decide | omega)).trans q99_0_M1
  have q99_1_M3 : (M3 99 1 = M 99 1) := (show M3 99 1 = M1 99 1 by rw [hM3]; exact mu_ne _ _ (by first | decide | omega)).trans q99_1_M1
  have q99_2_M3 : (M3 99 2 = M 99 2) := (show M3 99 2 = M1 99 2 by rw [hM3]; exact mu_ne _ _ (by first | decide | omega)).trans q99_2_M1
  have q99_3_M3 : (M3 99 3 = M 99 3) := (show M3 99 3 = M1 99 3 by rw [hM3]; exact mu_ne _ _ (by first | decide | omega)).trans q99_3_M1
  have q100_0_M3 : id (M3 100 0 = M 100 0) := (show M3 100 0 = M1 100 0 by rw [hM3]; exact mu_ne _ _ (by first | decide | omega)).trans q100_0_M1
  have q100_1_M3 : id (M3 100 1 = M 100 1) := (show M3 100 1 = M1 100 1 by rw [hM3]; exact mu_ne _ _ (by first | decide | omega)).trans q100_1_M1
  have q100_2_M3 : id (M3 100 2 = M 100 2) := (show M3 100 2 = M1 100 2 by rw [hM3]; exact mu_ne _ _ (by first | decide | omega)).trans q100_2_M1
  have q100_3_M3 : id (M3 100 3 = M 100 3) := (show M3 100 3 = M1 100 3 by rw [hM3]; exact mu_ne _ _ (by first | decide | omega)).trans q100_3_M1
  have q100_49_M3 : id (M3 100 49 = M 100 49) := (show M3 100 49 = M1 100 49 by rw [hM3]; exact mu_ne _ _ (by first | decide | omega)).trans q100_49_M1
  have q100_50_M3 : id (M3 100 50 = M 100 50) := (show M3 100 50 = M1 100 50 by rw [hM3]; exact mu_ne _ _ (by first | decide | omega)).trans q100_50_M1
  have q100_51_M3 : id (M3 100 51 = M 100 51) := (show M3 100 51 = M1 100 51 by rw [hM3]; exact mu_ne _ _ (by first | decide | omega)).trans q100_51_M1
  have q100_52_M3 : id (M3 100 52 = M 100 52) := (show M3 100 52 = M1 100 52 by rw [hM3]; exact mu_ne _ _ (by first | decide | omega)).trans q100_52_M1
  have q103_0_M3 : id (M3 103 0 = M 103 0) := (show M3 103 0 = M1 103 0 by rw [hM3]; exact mu_ne _ _ (by first | decide | omega)).trans q103_0_M1
  have q103_1_M3 : id (M3 103 1 = M 103 1) := (show M3 103 1 = M1 103 1 by rw [hM3]; exact mu_ne _ _ (by first | decide | omega)).trans q103_1_M1
  have q97_17_M3 : (M3 97 17 = M 97 17) := (show M3 97 17 = M1 97 17 by rw [hM3]; exact mu_ne _ _ (by first | decide | omega)).trans q97_17_M1
  have q97_33_M3 : (M3 97 33 = M 97 33) := (show M3 97 33 = M1 97 33 by rw [hM3]; exact mu_ne _ _ (by first | decide | omega)).trans q97_33_M1
  have q97_44_M3 : (M3 97 44 = M 97 44) := (show M3 97 44 = M1 97 44 by rw [hM3]; exact mu_ne _ _ (by first | decide | omega)).trans q97_44_M1
  have q97_10_M3 : (M3 97 10 = M 97 10) := (show M3 97 10 = M1 97 10 by rw [hM3]; exact mu_ne _ _ (by first | decide | omega)).trans q97_10_M1
  have q97_1_M3 : (M3 97 1 = M 97 1) := (show M3 97 1 = M1 97 1 by rw [hM3]; exact mu_ne _ _ (by first | decide | omega)).trans q97_1_M1
  have wM3_97_10 : M3 97 10 = M1 97 10 := by rw [hM3]; exact mu_ne _ _ (by first | decide | omega)
  have xM3_97_0 : M3 97 0 = 0 := (show M3 97 0 = M1 97 0 by rw [hM3]; exact mu_ne _ _ (by first | decide | omega)).trans xM1_97_0
  have xM3_97_12 : M3 97 12 = 0 := by rw [hM3]; exact mu_at _ _ _ _
  have c98M3 : M3 98 = M 98 := (show M3 98 = M1 98 by rw [hM3]; exact mu_cell _ _ (by decide)).trans c98M1
  have c99M3 : M3 99 = M 99 := (show M3 99 = M1 99 by rw [hM3]; exact mu_cell _ _ (by decide)).trans c99M1
  have c101M3 : M3 101 = M 101 := (show M3 101 = M1 101 by rw [hM3]; exact mu_cell _ _ (by decide)).trans c101M1
  refine g_iload_n (pc' := 16) 0 dX10_row_15 rfl rfl ?_
  refine g_if_eq (pc' := 19) (tgt := 32) rv2 dX10_row_16 rfl rfl (fun c4 => ?_) (fun c4 => ?_)
  · refine g_aload_n (pc' := 33) 1 dX10_row_32 rfl rfl ?_
    refine g_bipush (pc' := 35) (v := (-6)) dX10_row_33 rfl (by decide) ?_
    refine g_callVi (pc' := 38) (As := [vi (-6)]) (b := 97) (S := []) dX10_row_35 rfl m_X10_87 w_X10_tell (c_X10_tell_x X M3 iM3 (-6) (by decide) (by omega)) rfl ⟨_, _, _, rfl, rfl, rfl⟩ (by decide) (by decide) rfl (Nat.le_of_ble_eq_true rfl) (fun z6 M7 q5 => ?_)
    obtain ⟨iM7, fM70, eM7_99_0, eM7_99_1, eM7_99_2, eM7_99_3, eM7_100_0, eM7_100_1, eM7_100_2, eM7_100_3, eM7_100_49, eM7_100_50, eM7_100_51, eM7_100_52, eM7_103_0, eM7_103_1, eM7_97_12, eM7_97_17, eM7_97_33, eM7_97_10, eM7_97_44, pM7⟩ := q5
    have fM7 : Fr (fun c => c = 97 ∨ c = 98 ∨ c = 101) M M7 := Fr.tr fM3 fM70 fi_31
    have q99_0_M7 : (M7 99 0 = M 99 0) := eM7_99_0.trans q99_0_M3
    have q99_1_M7 : (M7 99 1 = M 99 1) := eM7_99_1.trans q99_1_M3
    have q99_2_M7 : (M7 99 2 = M 99 2) := eM7_99_2.trans q99_2_M3
    have q99_3_M7 : (M7 99 3 = M 99 3) := eM7_99_3.trans q99_3_M3
    have q100_0_M7 : id (M7 100 0 = M 100 0) := eM7_100_0.trans q100_0_M3
    have q100_1_M7 : id (M7 100 1 = M 100 1) := eM7_100_1.trans q100_1_M3
    have q100_2_M7 : id (M7 100 2 = M 100 2) := eM7_100_2.trans q100_2_M3
    have q100_3_M7 : id (M7 100 3 = M 100 3) := eM7_100_3.trans q100_3_M3
    have q100_49_M7 : id (M7 100 49 = M 100 49) := eM7_100_49.trans q100_49_M3
    have q100_50_M7 : id (M7 100 50 = M 100 50) := eM7_100_50.trans q100_50_M3
    have q100_51_M7 : id (M7 100 51 = M 100 51) := eM7_100_51.trans q100_51_M3
    have q100_52_M7 : id (M7 100 52 = M 100 52) := eM7_100_52.trans q100_52_M3
    have q103_0_M7 : id (M7 103 0 = M 103 0) := eM7_103_0.trans q103_0_M3
    have q103_1_M7 : id (M7 103 1 = M 103 1) := eM7_103_1.trans q103_1_M3
    have q97_17_M7 : (M7 97 17 = M 97 17) := eM7_97_17.trans q97_17_M3
    have q97_33_M7 : (M7 97 33 = M 97 33) := eM7_97_33.trans q97_33_M3
    have q97_44_M7 : (M7 97 44 = M 97 44) := eM7_97_44.trans q97_44_M3
    have q97_10_M7 : (M7 97 10 = M 97 10) := eM7_97_10.trans q97_10_M3
    have wM7_97_12 : M7 97 12 = M3 97 12 := eM7_97_12
    have wM7_97_10 : M7 97 10 = M3 97 10 := eM7_97_10
    have xM7_97_12 : M7 97 12 = 0 := eM7_97_12.trans xM3_97_12
    clear eM7_100_0 eM7_100_1 eM7_100_2 eM7_100_3 eM7_100_49 eM7_100_50 eM7_100_51 eM7_100_52 eM7_103_0 eM7_103_1
    have c99M7 : M7 99 = M 99 := (fM70 99 (by decide)).trans c99M3
    have c101M7 : M7 101 = M 101 := (fM70 101 (by decide)).trans c101M3
    obtain ⟨anM7, asM7, a98M7⟩ := pM7
    rw [c98M3] at a98M7
    subst anM7
    have e101 : M7 101 = M3 101 := fM70 101 (by decide)
    refine g_ireturn dX10_row_38 ?_
    exact ⟨iM7, fM7, q99_0_M7, q99_1_M7, q99_2_M7, q99_3_M7, q100_0_M7, q100_1_M7, q100_2_M7, q100_3_M7, q100_49_M7, q100_50_M7, q100_51_M7, q100_52_M7, q103_0_M7, q103_1_M7, q97_17_M7, q97_33_M7, q97_44_M7, by omega, ⟨fun _ => ⟨by omega, by omega, (e101.trans c101M3)⟩, fun q => absurd (by omega) q⟩, by omega, asM7, a98M7⟩
  · refine g_aload_n (pc' := 20) 1 dX10_row_19 rfl rfl ?_
    refine g_aload_n (pc' := 21) 1 dX10_row_20 rfl rfl ?_
    refine g_getR (pc' := 24) dX10_row_21 rfl f_X10_36 rfl rfl ?_
    refine g_iconst (pc' := 25) dX10_row_24 rfl ?_
    refine g_iald (pc' := 26) dX10_row_25 rfl rfl (by decide) (by decide) (fun v8 ev8 rv8 => ?_)
    have ev8 : v8 = M3 106 0 := ev8
    have kv8 : v8 = M 106 0 := by rw [ev8, fM3 106 (by decide)]
    refine g_callVip (pc' := 29) (As := [vi v8]) (b := 97) (S := []) dX10_row_26 rfl m_X10_102 w_X10_isGlass (c_X10_isGlass X M3 iM3 v8 rv8) rfl ⟨_, _, _, rfl, rfl, rfl⟩ (by decide) (by decide) rfl (Nat.le_of_ble_eq_true rfl) (fun z10 q9 => ?_)
    refine g_if_ne (pc' := 32) (tgt := 39) ⟨by omega, by omega⟩ dX10_row_29 rfl rfl (fun c11 => ?_) (fun c11 => ?_)
    · replace q9 := q9.resolve_right (fun h => c11 h.1)
      refine g_aload_n (pc' := 40) 1 dX10_row_39 rfl rfl ?_
      refine g_iconst (pc' := 41) dX10_row_40 rfl ?_
      refine g_putI (pc' := 44) dX10_row_41 rfl p_X10_145 rfl rfl (by decide) (fun M12 hM12 => ?_)
      have iM12 : IM M12 := IM.wr iM3 hM12 (by unfold okv; first | decide | omega)
      have fM12 : Fr (fun c => c = 97 ∨ c = 98 ∨ c = 101) M M12 := Fr.wr fM3 hM12 (by first | decide | omega | (dsimp only; omega))
      have q99_0_M12 : (M12 99 0 = M 99 0) := (show M12 99 0 = M3 99 0 by rw [hM12]; exact mu_ne _ _ (by first | decide | omega)).trans q99_0_M3
      have q99_1_M12 : (M12 99 1 = M 99 1) := (show M12 99 1 = M3 99 1 by rw [hM12]; exact mu_ne _ _ (by first | decide | omega)).trans q99_1_M3
      have q99_2_M12 : (M12 99 2 = M 99 2) := (show M12 99 2 = M3 99 2 by rw [hM12]; exact mu_ne _ _ (by first | decide | omega)).trans q99_2_M3
      have q99_3_M12 : (M12 99 3 = M 99 3) := (show M12 99 3 = M3 99 3 by rw [hM12]; exact mu_ne _ _ (by first | decide | omega)).trans q99_3_M3
      have q100_0_M12 : id (M12 100 0 = M 100 0) := (show M12 100 0 = M3 100 0 by rw [hM12]; exact mu_ne _ _ (by first | decide | omega)).trans q100_0_M3
      have q100_1_M12 : id (M12 100 1 = M 100 1) := (show M12 100 1 = M3 100 1 by rw [hM12]; exact mu_ne _ _ (by first | decide | omega)).trans q100_1_M3
      have q100_2_M12 : id (M12 100 2 = M 100 2) := (show M12 100 2 = M3 100 2 by rw [hM12]; exact mu_ne _ _ (by first | decide | omega)).trans q100_2_M3
      have q100_3_M12 : id (M12 100 3 = M 100 3) := (show M12 100 3 = M3 100 3 by rw [hM12]; exact mu_ne _ _ (by first | decide | omega)).trans q100_3_M3
      have q100_49_M12 : id (M12 100 49 = M 100 49) := (show M12 100 49 = M3 100 49 by rw [hM12]; exact mu_ne _ _ (by first | decide | omega)).trans q100_49_M3
      have q100_50_M12 : id (M12 100 50 = M 100 50) := (show M12 100 50 = M3 100 50 by rw [hM12]; exact mu_ne _ _ (by first | decide | omega)).trans q100_50_M3
      have q100_51_M12 : id (M12 100 51 = M 100 51) := (show M12 100 51 = M3 100 51 by rw [hM12]; exact mu_ne _ _ (by first | decide | omega)).trans q100_51_M3
      have q100_52_M12 : id (M12 100 52 = M 100 52) := (show M12 100 52 = M3 100 52 by rw [hM12]; exact mu_ne _ _ (by first | decide | omega)).trans q100_52_M3
      have q103_0_M12 : id (M12 103 0 = M 103 0) := (show M12 103 0 = M3 103 0 by rw [hM12]; exact mu_ne _ _ (by first | decide | omega)).trans q103_0_M3
      have q103_1_M12 : id (M12 103 1 = M 103 1) := (show M12 103 1 = M3 103 1 by rw [hM12]; exact mu_ne _ _ (by first | decide | omega)).trans q103_1_M3
      have q97_17_M12 : (M12 97 17 = M 97 17) := (show M12 97 17 = M3 97 17 by rw [hM12]; exact mu_ne _ _ (by first | decide | omega)).trans q97_17_M3
      have q97_33_M12 : (M12 97 33 = M 97 33) := (show M12 97 33 = M3 97 33 by rw [hM12]; exact mu_ne _ _ (by first | decide | omega)).trans q97_33_M3
      have q97_44_M12 : (M12 97 44 = M 97 44) := (show M12 97 44 = M3 97 44 by rw [hM12]; exact mu_ne _ _ (by first | decide | omega)).trans q97_44_M3
      have q97_1_M12 : (M12 97 1 = M 97 1) := (show M12 97 1 = M3 97 1 by rw [hM12]; exact mu_ne _ _ (by first | decide | omega)).trans q97_1_M3
      have wM12_97_12 : M12 97 12 = M3 97 12 := by rw [hM12]; exact mu_ne _ _ (by first | decide | omega)
      have xM12_97_0 : M12 97 0 = 0 := (show M12 97 0 = M3 97 0 by rw [hM12]; exact mu_ne _ _ (by first | decide | omega)).trans xM3_97_0
      have xM12_97_12 : M12 97 12 = 0 := (show M12 97 12 = M3 97 12 by rw [hM12]; exact mu_ne _ _ (by first | decide | omega)).trans xM3_97_12
      have xM12_97_10 : M12 97 10 = 0 := by rw [hM12]; exact mu_at _ _ _ _
      have c98M12 : M12 98 = M 98 := (show M12 98 = M3 98 by rw [hM12]; exact mu_cell _ _ (by decide)).trans c98M3
      have c99M12 : M12 99 = M 99 := (show M12 99 = M3 99 by rw [hM12]; exact mu_cell _ _ (by decide)).trans c99M3
      have c101M12 : M12 101 = M 101 := (show M12 101 = M3 101 by rw [hM12]; exact mu_cell _ _ (by decide)).trans c101M3
      refine g_iconst (pc' := 45) dX10_row_44 rfl ?_
      refine g_istore_n (pc' := 46) (i := 2) (L' := [(2, vi 0), (1, vi v2), (0, vr X 97)]) dX10_row_45 rfl rfl (by decide) rfl ?_
      refine g_iconst (pc' := 47) dX10_row_46 rfl ?_
      refine g_istore_n (pc' := 48) (i := 3) (L' := [(3, vi 1), (2, vi 0), (1, vi v2), (0, vr X 97)]) dX10_row_47 rfl rfl (by decide) rfl ?_
      refine g_sub [2, 1, 0, 3] rfl ?_
      exact l_X10_row_x_48 X M hi _ v2 0 1 M12 iM12 fM12 q99_0_M12 q99_1_M12 q99_2_M12 q99_3_M12 q100_0_M12 q100_1_M12 q100_2_M12 q100_3_M12 q100_49_M12 q100_50_M12 q100_51_M12 q100_52_M12 q103_0_M12 q103_1_M12 q97_17_M12 q97_33_M12 q97_44_M12 q97_1_M12 (by omega) (by omega) (by omega) (by omega) (by omega) c98M12 c99M12 c101M12 rfl rfl
    · replace q9 := q9.resolve_left (fun h => absurd (c11.symm.trans h.1) (by decide))
      refine g_aload_n (pc' := 33) 1 dX10_row_32 rfl rfl ?_
      refine g_bipush (pc' := 35) (v := (-6)) dX10_row_33 rfl (by decide) ?_
      refine g_callVi (pc' := 38) (As := [vi (-6)]) (b := 97) (S := []) dX10_row_35 rfl m_X10_87 w_X10_tell (c_X10_tell_x X M3 iM3 (-6) (by decide) (by omega)) rfl ⟨_, _, _, rfl, rfl, rfl⟩ (by decide) (by decide) rfl (Nat.le_of_ble_eq_true rfl) (fun z14 M15 q13 => ?_)
      obtain ⟨iM15, fM150, eM15_99_0, eM15_99_1, eM15_99_2, eM15_99_3, eM15_100_0, eM15_100_1, eM15_100_2, eM15_100_3, eM15_100_49, eM15_100_50, eM15_100_51, eM15_100_52, eM15_103_0, eM15_103_1, eM15_97_12, eM15_97_17, eM15_97_33, eM15_97_10, eM15_97_44, pM15⟩ := q13
      have fM15 : Fr (fun c => c = 97 ∨ c = 98 ∨ c = 101) M M15 := Fr.tr fM3 fM150 fi_31
      have q99_0_M15 : (M15 99 0 = M 99 0) := eM15_99_0.trans q99_0_M3
      have q99_1_M15 : (M15 99 1 = M 99 1) := eM15_99_1.trans q99_1_M3
      have q99_2_M15 : (M15 99 2 = M 99 2) := eM15_99_2.trans q99_2_M3
      have q99_3_M15 : (M15 99 3 = M 99 3) := eM15_99_3.trans q99_3_M3
      have q100_0_M15 : id (M15 100 0 = M 100 0) := eM15_100_0.trans q100_0_M3
      have q100_1_M15 : id (M15 100 1 = M 100 1) := eM15_100_1.trans q100_1_M3
      have q100_2_M15 : id (M15 100 2 = M 100 2) := eM15_100_2.trans q100_2_M3
      have q100_3_M15 : id (M15 100 3 = M 100 3) := eM15_100_3.trans q100_3_M3
      have q100_49_M15 : id (M15 100 49 = M 100 49) := eM15_100_49.trans q100_49_M3
      have q100_50_M15 : id (M15 100 50 = M 100 50) := eM15_100_50.trans q100_50_M3
      have q100_51_M15 : id (M15 100 51 = M 100 51) := eM15_100_51.trans q100_51_M3
      have q100_52_M15 : id (M15 100 52 = M 100 52) := eM15_100_52.trans q100_52_M3
      have q103_0_M15 : id (M15 103 0 = M 103 0) := eM15_103_0.trans q103_0_M3
      have q103_1_M15 : id (M15 103 1 = M 103 1) := eM15_103_1.trans q103_1_M3
      have q97_17_M15 : (M15 97 17 = M 97 17) := eM15_97_17.trans q97_17_M3
      have q97_33_M15 : (M15 97 33 = M 97 33) := eM15_97_33.trans q97_33_M3
      have q97_44_M15 : (M15 97 44 = M 97 44) := eM15_97_44.trans q97_44_M3
      have q97_10_M15 : (M15 97 10 = M 97 10) := eM15_97_10.trans q97_10_M3
      have wM15_97_12 : M15 97 12 = M3 97 12 := eM15_97_12
      have wM15_97_10 : M15 97 10 = M3 97 10 := eM15_97_10
      have xM15_97_12 : M15 97 12 = 0 := eM15_97_12.trans xM3_97_12
      clear eM15_100_0 eM15_100_1 eM15_100_2 eM15_100_3 eM15_100_49 eM15_100_50 eM15_100_51 eM15_100_52 eM15_103_0 eM15_103_1
      have c99M15 : M15 99 = M 99 := (fM150 99 (by decide)).trans c99M3
      have c101M15 : M15 101 = M 101 := (fM150 101 (by decide)).trans c101M3
      obtain ⟨anM15, asM15, a98M15⟩ := pM15
      rw [c98M3] at a98M15
      subst anM15
      have e101 : M15 101 = M3 101 := fM150 101 (by decide)
      refine g_ireturn dX10_row_38 ?_
      exact ⟨iM15, fM15, q99_0_M15, q99_1_M15, q99_2_M15, q99_3_M15, q100_0_M15, q100_1_M15, q100_2_M15, q100_3_M15, q100_49_M15, q100_50_M15, q100_51_M15, q100_52_M15, q103_0_M15, q103_1_M15, q97_17_M15, q97_33_M15, q97_44_M15, by omega, ⟨fun _ => ⟨by omega, by omega, (e101.trans c101M3)⟩, fun q => absurd (by omega) q⟩, by omega, asM15, a98M15⟩
