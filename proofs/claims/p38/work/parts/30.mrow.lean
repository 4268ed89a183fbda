set_option maxHeartbeats 4000000 in
set_option maxRecDepth 100000 in
theorem c_X10_rinse (X : Cx) (M : Mm) (hi : IM M) (a : Int) (ha : inI a) (b : Int) (hb : inI b) (c : Int) (hc : inI c) (e : Int) (he : inI e) : Con X 12 yX10_rinse cX10_rinse 8 (some .long) [vr X 97, vi a, vi b, vi c, vi e] M (Ql (fun r M1 => IM M1 ∧ Fr (fun c => c = 97) M M1 ∧ M1 99 0 = M 99 0 ∧ M1 99 1 = M 99 1 ∧ M1 99 2 = M 99 2 ∧ M1 99 3 = M 99 3 ∧ M1 100 0 = M 100 0 ∧ M1 100 1 = M 100 1 ∧ M1 100 2 = M 100 2 ∧ M1 100 3 = M 100 3 ∧ M1 100 49 = M 100 49 ∧ M1 100 50 = M 100 50 ∧ M1 100 51 = M 100 51 ∧ M1 100 52 = M 100 52 ∧ M1 103 0 = M 103 0 ∧ M1 103 1 = M 103 1 ∧ M1 97 12 = M 97 12 ∧ M1 97 17 = M 97 17 ∧ M1 97 33 = M 97 33 ∧ M1 97 10 = M 97 10 ∧ M1 97 44 = M 97 44 ∧ M1 97 1 = M 97 1 ∧ (inL r))) := by
  refine Con.ofG rfl (Nat.le_of_ble_eq_true rfl) ?_
  show G X 12 RX10 cX10_rinse 8 (some .long) (Ql (fun r M1 => IM M1 ∧ Fr (fun c => c = 97) M M1 ∧ M1 99 0 = M 99 0 ∧ M1 99 1 = M 99 1 ∧ M1 99 2 = M 99 2 ∧ M1 99 3 = M 99 3 ∧ M1 100 0 = M 100 0 ∧ M1 100 1 = M 100 1 ∧ M1 100 2 = M 100 2 ∧ M1 100 3 = M 100 3 ∧ M1 100 49 = M 100 49 ∧ M1 100 50 = M 100 50 ∧ M1 100 51 = M 100 51 ∧ M1 100 52 = M 100 52 ∧ M1 103 0 = M 103 0 ∧ M1 103 1 = M 103 1 ∧ M1 97 12 = M 97 12 ∧ M1 97 17 = M 97 17 ∧ M1 97 33 = M 97 33 ∧ M1 97 10 = M 97 10 ∧ M1 97 44 = M 97 44 ∧ M1 97 1 = M 97 1 ∧ (inL r))) 0 [(0, vr X 97), (1, vi a), (2, vi b), (3, vi c), (4, vi e)] [] M
  have p0 := hi.1.1
  have p1 := hi.1.2.1
  have p2 := hi.1.2.2.1
  have p3 := hi.1.2.2.2.1
  have p12 := hi.2.2.2.1
  refine g_aload_n (pc' := 1) 0 dX10_rinse_0 rfl rfl ?_
  refine g_iconst (pc' := 2) dX10_rinse_1 rfl ?_
  refine g_putI (pc' := 5) dX10_rinse_2 rfl p_X10_77 rfl rfl (by decide) (fun M1 hM1 => ?_)
  have iM1 : IM M1 := IM.wr hi hM1 (by unfold okv; first | decide | omega)
  have fM1 : Fr (fun c => c = 97) M M1 := Fr.wr Fr.rf hM1 (by first | decide | omega | (dsimp only; omega))
  have q99_0_M1 : (M1 99 0 = M 99 0) := (show M1 99 0 = M 99 0 by rw [hM1]; exact mu_ne _ _ (by first | decide | omega))
  have q99_1_M1 : (M1 99 1 = M 99 1) := (show M1 99 1 = M 99 1 by rw [hM1]; exact mu_ne _ _ (by first | decide | omega))
  have q99_2_M1 : (M1 99 2 = M 99 2) := (show M1 99 2 = M 99 2 by rw [hM1]; exact mu_ne _ _ (by first | decide | omega))
  have q99_3_M1 : (M1 99 3 = M 99 3) := (show M1 99 3 = M 99 3 by rw [hM1]; exact mu_ne _ _ (by first | decide | omega))
  have q100_0_M1 : id (M1 100 0 = M 100 0) := (show M1 100 0 = M 100 0 by rw [hM1]; exact mu_ne _ _ (by first | decide | omega))
  have q100_1_M1 : id (M1 100 1 = M 100 1) := (show M1 100 1 = M 100 1 by rw [hM1]; exact mu_ne _ _ (by first | decide | omega))
  have q100_2_M1 : id (M1 100 2 = M 100 2) := (show M1 100 2 = M 100 2 by rw [hM1]; exact mu_ne _ _ (by first | decide | omega))
  have q100_3_M1 : id (M1 100 3 = M 100 3) := (show M1 100 3 = M 100 3 by rw [hM1]; exact mu_ne _ _ (by first | decide | omega))
  have q100_49_M1 : id (M1 100 49 = M 100 49) := (show M1 100 49 = M 100 49 by rw [hM1]; exact mu_ne _ _ (by first | decide | omega))
  have q100_50_M1 : id (M1 100 50 = M 100 50) := (show M1 100 50 = M 100 50 by rw [hM1]; exact mu_ne _ _ (by first | decide | omega))
  have q100_51_M1 : id (M1 100 51 = M 100 51) := (show M1 100 51 = M 100 51 by rw [hM1]; exact mu_ne _ _ (by first | decide | omega))
  have q100_52_M1 : id (M1 100 52 = M 100 52) := (show M1 100 52 = M 100 52 by rw [hM1]; exact mu_ne _ _ (by first | decide | omega))
  have q103_0_M1 : id (M1 103 0 = M 103 0) := (show M1 103 0 = M 103 0 by rw [hM1]; exact mu_ne _ _ (by first | decide | omega))
  have q103_1_M1 : id (M1 103 1 = M 103 1) := (show M1 103 1 = M 103 1 by rw [hM1]; exact mu_ne _ _ (by first | decide | omega))
  have q97_12_M1 : (M1 97 12 = M 97 12) := (show M1 97 12 = M 97 12 by rw [hM1]; exact mu_ne _ _ (by first | decide | omega))
  have q97_17_M1 : (M1 97 17 = M 97 17) := (show M1 97 17 = M 97 17 by rw [hM1]; exact mu_ne _ _ (by first | decide | omega))
  have q97_33_M1 : (M1 97 33 = M 97 33) := (show M1 97 33 = M 97 33 by rw [hM1]; exact mu_ne _ _ (by first | decide | omega))
  have q97_10_M1 : (M1 97 10 = M 97 10) := (show M1 97 10 = M 97 10 by rw [hM1]; exact mu_ne _ _ (by first | decide | omega))
  have q97_44_M1 : (M1 97 44 = M 97 44) := (show M1 97 44 = M 97 44 by rw [hM1]; exact mu_ne _ _ (by first | decide | omega))
  have q97_1_M1 : (M1 97 1 = M 97 1) := (show M1 97 1 = M 97 1 by rw [hM1]; exact mu_ne _ _ (by first | decide | omega))
  have xM1_97_0 : M1 97 0 = 0 := by rw [hM1]; exact mu_at _ _ _ _
  refine g_iload_n (pc' := 6) 1 dX10_rinse_5 rfl rfl ?_
  refine g_i2l (pc' := 7) ha dX10_rinse_6 rfl ?_
  refine g_lconst (pc' := 8) (v := 1) dX10_rinse_7 rfl (by decide) ?_
  refine g_ldc2 (pc' := 11) (v := 9) dX10_rinse_8 rfl k_X10_380 ?_
  refine g_callSip (pc' := 14) (As := [vl a, vl 1, vl 9]) (S := []) dX10_rinse_11 rfl m_X10_83 w_X10_in (c_X10_in X M1 a ⟨by omega, by omega⟩ 1 (by decide) 9 (by decide)) rfl (by decide) (by decide) rfl (Nat.le_of_ble_eq_true rfl) (fun z3 q2 => ?_)
  refine g_if_eq (pc' := 17) (tgt := 55) ⟨by omega, by omega⟩ dX10_rinse_14 rfl rfl (fun c4 => ?_) (fun c4 => ?_)
  · replace q2 := q2.resolve_left (fun h => absurd (c4.symm.trans h.1) (by decide))
    refine g_ldc2 (pc' := 58) (v := (-1)) dX10_rinse_55 rfl k_X10_108 ?_
    refine g_lreturn dX10_rinse_58 ?_
    exact ⟨iM1, fM1, q99_0_M1, q99_1_M1, q99_2_M1, q99_3_M1, q100_0_M1, q100_1_M1, q100_2_M1, q100_3_M1, q100_49_M1, q100_50_M1, q100_51_M1, q100_52_M1, q103_0_M1, q103_1_M1, q97_12_M1, q97_17_M1, q97_33_M1, q97_10_M1, q97_44_M1, q97_1_M1, by first | assumption | decide | omega⟩
  · replace q2 := q2.resolve_right (fun h => c4 h.1)
    refine g_iload_n (pc' := 18) 2 dX10_rinse_17 rfl rfl ?_
    refine g_i2l (pc' := 19) hb dX10_rinse_18 rfl ?_
    refine g_lconst (pc' := 20) (v := 0) dX10_rinse_19 rfl (by decide) ?_
    refine g_ldc2 (pc' := 23) (v := 60) dX10_rinse_20 rfl k_X10_93 ?_
    refine g_callSip (pc' := 26) (As := [vl b, vl 0, vl 60]) (S := []) dX10_rinse_23 rfl m_X10_83 w_X10_in (c_X10_in X M1 b ⟨by omega, by omega⟩ 0 (by decide) 60 (by decide)) rfl (by decide) (by decide) rfl (Nat.le_of_ble_eq_true rfl) (fun z6 q5 => ?_)
    refine g_if_eq (pc' := 29) (tgt := 55) ⟨by omega, by omega⟩ dX10_rinse_26 rfl rfl (fun c7 => ?_) (fun c7 => ?_)
    · replace q5 := q5.resolve_left (fun h => absurd (c7.symm.trans h.1) (by decide))
      refine g_ldc2 (pc' := 58) (v := (-1)) dX10_rinse_55 rfl k_X10_108 ?_
      refine g_lreturn dX10_rinse_58 ?_
      exact ⟨iM1, fM1, q99_0_M1, q99_1_M1, q99_2_M1, q99_3_M1, q100_0_M1, q100_1_M1, q100_2_M1, q100_3_M1, q100_49_M1, q100_50_M1, q100_51_M1, q100_52_M1, q103_0_M1, q103_1_M1, q97_12_M1, q97_17_M1, q97_33_M1, q97_10_M1, q97_44_M1, q97_1_M1, by first | assumption | decide | omega⟩
    · replace q5 := q5.resolve_right (fun h => c7 h.1)
      refine g_iload_n (pc' := 30) 3 dX10_rinse_29 rfl rfl ?_
      refine g_i2l (pc' := 31) hc dX10_rinse_30 rfl ?_
      refine g_lconst (pc' := 32) (v := 1) dX10_rinse_31 rfl (by decide) ?_
      refine g_ldc2 (pc' := 35) (v := 6) dX10_rinse_32 rfl k_X10_335 ?_
      refine g_callSip (pc' := 38) (As := [vl c, vl 1, vl 6]) (S := []) dX10_rinse_35 rfl m_X10_83 w_X10_in (c_X10_in X M1 c ⟨by omega, by omega⟩ 1 (by decide) 6 (by decide)) rfl (by decide) (by decide) rfl (Nat.le_of_ble_eq_true rfl) (fun z9 q8 => ?_)
      refine g_if_eq (pc' := 41) (tgt := 55) ⟨by omega, by omega⟩ dX10_rinse_38 rfl rfl (fun c10 => ?_) (fun c10 => ?_)
      · replace q8 := q8.resolve_left (fun h => absurd (c10.symm.trans h.1) (by decide))
        refine g_ldc2 (pc' := 58) (v := (-1)) dX10_rinse_55 rfl k_X10_108 ?_
        refine g_lreturn dX10_rinse_58 ?_
        exact ⟨iM1, fM1, q99_0_M1, q99_1_M1, q99_2_M1, q99_3_M1, q100_0_M1, q100_1_M1, q100_2_M1, q100_3_M1, q100_49_M1, q100_50_M1, q100_51_M1, q100_52_M1, q103_0_M1, q103_1_M1, q97_12_M1, q97_17_M1, q97_33_M1, q97_10_M1, q97_44_M1, q97_1_M1, by first | assumption | decide | omega⟩
      · replace q8 := q8.resolve_right (fun h => c10 h.1)
        refine g_iload (pc' := 43) 4 dX10_rinse_41 rfl rfl ?_
        refine g_i2l (pc' := 44) he dX10_rinse_43 rfl ?_
        refine g_lconst (pc' := 45) (v := 0) dX10_rinse_44 rfl (by decide) ?_
        refine g_lconst (pc' := 46) (v := 1) dX10_rinse_45 rfl (by decide) ?_
        refine g_iload_n (pc' := 47) 3 dX10_rinse_46 rfl rfl ?_
        refine g_i2l (pc' := 48) hc dX10_rinse_47 rfl ?_
        refine g_ladd (pc' := 49) dX10_rinse_48 rfl ?_
        refine g_callSip (pc' := 52) (As := [vl e, vl 0, vl (1 + c)]) (S := []) dX10_rinse_49 rfl m_X10_83 w_X10_in (c_X10_in X M1 e ⟨by omega, by omega⟩ 0 (by decide) (1 + c) ⟨by omega, by omega⟩) rfl (by decide) (by decide) rfl (Nat.le_of_ble_eq_true rfl) (fun z12 q11 => ?_)
        refine g_if_ne (pc' := 55) (tgt := 59) ⟨by omega, by omega⟩ dX10_rinse_52 rfl rfl (fun c13 => ?_) (fun c13 => ?_)
        · replace q11 := q11.resolve_right (fun h => c13 h.1)
          refine g_iload_n (pc' := 60) 3 dX10_rinse_59 rfl rfl ?_
          refine g_iload_n (pc' := 61) 2 dX10_rinse_60 rfl rfl ?_
          refine g_iload_n (pc' := 62) 3 dX10_rinse_61 rfl rfl ?_
          have hw1 := tmr (x := b) (k := c) (by omega) (by omega)
          have hw2 := tdr (x := b) (k := c) (by omega) (by omega)
          refine g_irem (pc' := 63) hb hc (by omega) dX10_rinse_62 rfl ?_
          refine g_isub (pc' := 64) dX10_rinse_63 rfl ?_
          refine g_istore (pc' := 66) (L' := [(5, vi (c - (b.tmod c))), (0, vr X 97), (1, vi a), (2, vi b), (3, vi c), (4, vi e)]) dX10_rinse_64 rfl (by decide) rfl ?_
          refine g_iload (pc' := 68) 5 dX10_rinse_66 rfl rfl ?_
          refine g_iconst (pc' := 69) dX10_rinse_68 rfl ?_
          refine g_ic_le (pc' := 72) (tgt := 92) he (by decide) dX10_rinse_69 rfl rfl (fun c14 => ?_) (fun c14 => ?_)
          · refine g_iload_n (pc' := 93) 2 dX10_rinse_92 rfl rfl ?_
            refine g_iload_n (pc' := 94) 3 dX10_rinse_93 rfl rfl ?_
            refine g_iload_n (pc' := 95) 4 dX10_rinse_94 rfl rfl ?_
            refine g_idiv (pc' := 96) hb hc (by omega) dX10_rinse_95 rfl ?_
            refine g_iadd (pc' := 97) dX10_rinse_96 rfl ?_
            refine g_i2l (pc' := 98) ⟨by omega, by omega⟩ dX10_rinse_97 rfl ?_
            refine g_iload (pc' := 100) 0 dX10_rinse_98 rfl rfl ?_
            refine g_callSlp (pc' := 103) (As := [vl (a + (b.tdiv c)), vi (c - (b.tmod c))]) (S := []) dX10_rinse_100 rfl m_X10_337 w_X10_power (c_X10_power X M1 (a + (b.tdiv c)) ⟨by omega, by omega⟩ (c - (b.tmod c)) ⟨by omega, by omega⟩ (by omega) (by omega)) rfl (by decide) (by decide) rfl (Nat.le_of_ble_eq_true rfl) (fun z16 q15 => ?_)
            have hz16 := powR (a := a + (b.tdiv c)) (k := (c - (b.tmod c)).toNat) (by omega) (by omega) (by omega)
            rw [← q15] at hz16
            refine g_iload_n (pc' := 104) 2 dX10_rinse_103 rfl rfl ?_
            refine g_iload_n (pc' := 105) 3 dX10_rinse_104 rfl rfl ?_
            refine g_iload_n (pc' := 106) 4 dX10_rinse_105 rfl rfl ?_
            refine g_idiv (pc' := 107) hb hc (by omega) dX10_rinse_106 rfl ?_
            refine g_iadd (pc' := 108) dX10_rinse_107 rfl ?_
            refine g_iconst (pc' := 109) dX10_rinse_108 rfl ?_
            refine g_iadd (pc' := 110) dX10_rinse_109 rfl ?_
            refine g_i2l (pc' := 111) ⟨by omega, by omega⟩ dX10_rinse_110 rfl ?_
            refine g_iload_n (pc' := 112) 4 dX10_rinse_111 rfl rfl ?_
            refine g_iload (pc' := 114) 0 dX10_rinse_112 rfl rfl ?_
            refine g_isub (pc' := 115) dX10_rinse_114 rfl ?_
            refine g_callSlp (pc' := 118) (As := [vl ((a + (b.tdiv c)) + 1), vi (c - (c - (b.tmod c)))]) (S := [vl z16]) dX10_rinse_115 rfl m_X10_337 w_X10_power (c_X10_power X M1 ((a + (b.tdiv c)) + 1) ⟨by omega, by omega⟩ (c - (c - (b.tmod c))) ⟨by omega, by omega⟩ (by omega) (by omega)) rfl (by decide) (by decide) rfl (Nat.le_of_ble_eq_true rfl) (fun z18 q17 => ?_)
            have hz18 := powR (a := (a + (b.tdiv c)) + 1) (k := (c - (c - (b.tmod c))).toNat) (by omega) (by omega) (by omega)
            rw [← q17] at hz18
            refine g_lmul (pc' := 119) dX10_rinse_118 rfl ?_
            have hpq := powQ (a := a + (b.tdiv c)) (b := (a + (b.tdiv c)) + 1) (p := (c - (b.tmod c)).toNat) (q := (c - (c - (b.tmod c))).toNat) (by omega) (by omega) (by omega) (by omega) (by omega)
            rw [← q15, ← q17] at hpq
            refine g_lstore (pc' := 121) (L' := [(6, vl (z16 * z18)), (5, vi (c - (b.tmod c))), (0, vr X 97), (1, vi a), (2, vi b), (3, vi c), (4, vi e)]) dX10_rinse_119 rfl (by decide) rfl ?_
            refine g_iload_n (pc' := 122) 3 dX10_rinse_121 rfl rfl ?_
            refine g_i2l (pc' := 123) ha dX10_rinse_122 rfl ?_
            refine g_iload_n (pc' := 124) 5 dX10_rinse_123 rfl rfl ?_
            refine g_callSlp (pc' := 127) (As := [vl a, vi c]) (S := []) dX10_rinse_124 rfl m_X10_337 w_X10_power (c_X10_power X M1 a ⟨by omega, by omega⟩ c hc (by omega) (by omega)) rfl (by decide) (by decide) rfl (Nat.le_of_ble_eq_true rfl) (fun z20 q19 => ?_)
            have hz20 := powR (a := a) (k := (c).toNat) (by omega) (by omega) (by omega)
            rw [← q19] at hz20
            refine g_lload (pc' := 129) 0 dX10_rinse_127 rfl rfl ?_
            refine g_iload (pc' := 131) 6 dX10_rinse_129 rfl rfl ?_
            refine g_callSlp (pc' := 134) (As := [vl z20, vl (z16 * z18), vi e]) (S := []) dX10_rinse_131 rfl m_X10_341 w_X10_lowest (c_X10_lowest X M1 z20 ⟨by omega, by omega⟩ (z16 * z18) ⟨by omega, by omega⟩ e he (by omega) (by omega)) rfl (by decide) (by decide) rfl (Nat.le_of_ble_eq_true rfl) (fun z22 q21 => ?_)
            refine g_lreturn dX10_rinse_134 ?_
            exact ⟨iM1, fM1, q99_0_M1, q99_1_M1, q99_2_M1, q99_3_M1, q100_0_M1, q100_1_M1, q100_2_M1, q100_3_M1, q100_49_M1, q100_50_M1, q100_51_M1, q100_52_M1, q103_0_M1, q103_1_M1, q97_12_M1, q97_17_M1, q97_33_M1, q97_10_M1, q97_44_M1, q97_1_M1, by first | assumption | decide | omega⟩
          · refine g_iload_n (pc' := 73) 3 dX10_rinse_72 rfl rfl ?_
            refine g_iload_n (pc' := 74) 4 dX10_rinse_73 rfl rfl ?_
            refine g_idiv (pc' := 75) hb hc (by omega) dX10_rinse_74 rfl ?_
            refine g_iload (pc' := 77) 5 dX10_rinse_75 rfl rfl ?_
            refine g_iconst (pc' := 78) dX10_rinse_77 rfl ?_
            refine g_isub (pc' := 79) dX10_rinse_78 rfl ?_
            refine g_iload (pc' := 81) 0 dX10_rinse_79 rfl rfl ?_
            refine g_ic_ge (pc' := 84) (tgt := 88) ⟨by omega, by omega⟩ ⟨by omega, by omega⟩ dX10_rinse_81 rfl rfl (fun c23 => ?_) (fun c23 => ?_)
            · refine g_iconst (pc' := 89) dX10_rinse_88 rfl ?_
              refine g_iadd (pc' := 90) dX10_rinse_89 rfl ?_
              refine g_i2l (pc' := 91) ⟨by omega, by omega⟩ dX10_rinse_90 rfl ?_
              refine g_lreturn dX10_rinse_91 ?_
              exact ⟨iM1, fM1, q99_0_M1, q99_1_M1, q99_2_M1, q99_3_M1, q100_0_M1, q100_1_M1, q100_2_M1, q100_3_M1, q100_49_M1, q100_50_M1, q100_51_M1, q100_52_M1, q103_0_M1, q103_1_M1, q97_12_M1, q97_17_M1, q97_33_M1, q97_10_M1, q97_44_M1, q97_1_M1, by first | assumption | decide | omega⟩
            · refine g_iconst (pc' := 85) dX10_rinse_84 rfl ?_
              refine g_goto (tgt := 89) dX10_rinse_85 rfl ?_
              refine g_iadd (pc' := 90) dX10_rinse_89 rfl ?_
              refine g_i2l (pc' := 91) ⟨by omega, by omega⟩ dX10_rinse_90 rfl ?_
              refine g_lreturn dX10_rinse_91 ?_
              exact ⟨iM1, fM1, q99_0_M1, q99_1_M1, q99_2_M1, q99_3_M1, q100_0_M1, q100_1_M1, q100_2_M1, q100_3_M1, q100_49_M1, q100_50_M1, q100_51_M1, q100_52_M1, q103_0_M1, q103_1_M1, q97_12_M1, q97_17_M1, q97_33_M1, q97_10_M1, q97_44_M1, q97_1_M1, by first | assumption | decide | omega⟩
        · replace q11 := q11.resolve_left (fun h => absurd (c13.symm.trans h.1) (by decide))
          refine g_ldc2 (pc' := 58) (v := (-1)) dX10_rinse_55 rfl k_X10_108 ?_
          refine g_lreturn dX10_rinse_58 ?_
          exact ⟨iM1, fM1, q99_0_M1, q99_1_M1, q99_2_M1, q99_3_M1, q100_0_M1, q100_1_M1, q100_2_M1, q100_3_M1, q100_49_M1, q100_50_M1, q100_51_M1, q100_52_M1, q103_0_M1, q103_1_M1, q97_12_M1, q97_17_M1, q97_33_M1, q97_10_M1, q97_44_M1, q97_1_M1, by first | assumption | decide | omega⟩
