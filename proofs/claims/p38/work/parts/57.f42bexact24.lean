set_option maxHeartbeats 4000000 in
set_option maxRecDepth 100000 in
theorem l_X10_settle_z_0 (X : Cx) (M : Mm) (hi : IM M) (l : Int) (hl : inI l) (F0 : Int) (hs : SI M F0) (hl6 : 1 ≤ l ∧ l ≤ 6) : ∀ (kk : Nat)  (M1 : Mm) (ic1 : IM M1) (fr1 : Fr (fun c => c = 97 ∨ c = 108 ∨ c = 109) M M1) (q97_10 : (M1 97 10 = M 97 10)) (q97_44 : (M1 97 44 = M 97 44)) (q97_33 : (M1 97 33 = M 97 33)) (q97_12 : (M1 97 12 = M 97 12)) (q97_19 : (M1 97 19 = M 97 19)) (q97_24 : (M1 97 24 = M 97 24)) (q97_28 : (M1 97 28 = M 97 28)) (q97_13 : (M1 97 13 = M 97 13)) (q97_14 : (M1 97 14 = M 97 14)) (q97_15 : (M1 97 15 = M 97 15)) (q97_16 : (M1 97 16 = M 97 16)) (q97_18 : (M1 97 18 = M 97 18)) (q97_17 : (M1 97 17 = M 97 17)) (si1 : SI M1 F0) (ht1 : HT M M1 F0) (lo1 : LO M M1 F0) (sq1 : STQ M M1 l) (sx1 : SX M M1) (rl1 : RLG M M1 F0 l), (M1 97 27).toNat = kk → G X 1 RX10 cX10_settle 2 none (Qv (fun M1 => IM M1 ∧ Fr (fun c => c = 97 ∨ c = 108 ∨ c = 109) M M1 ∧ M1 97 10 = M 97 10 ∧ M1 97 44 = M 97 44 ∧ M1 97 33 = M 97 33 ∧ M1 97 12 = M 97 12 ∧ M1 97 19 = M 97 19 ∧ M1 97 24 = M 97 24 ∧ M1 97 28 = M 97 28 ∧ M1 97 13 = M 97 13 ∧ M1 97 14 = M 97 14 ∧ M1 97 15 = M 97 15 ∧ M1 97 16 = M 97 16 ∧ M1 97 18 = M 97 18 ∧ M1 97 17 = M 97 17 ∧ (SI M1 F0 ∧ HT M M1 F0 ∧ LO M M1 F0 ∧ STP M M1 l ∧ SX M M1 ∧ RLF M M1 F0 l))) 0 [(0, vr X 97), (1, vi l)] [] M1 := by
  intro kk
  induction kk using Nat.strongRecOn with
  | ind kk ih =>
    intro M1 ic1 fr1 q97_10 q97_44 q97_33 q97_12 q97_19 q97_24 q97_28 q97_13 q97_14 q97_15 q97_16 q97_18 q97_17 si1 ht1 lo1 sq1 sx1 rl1 hmes
    have sa := si1.ar
    refine g_aload_n (pc' := 1) 0 dX10_settle_0 rfl rfl ?_
    refine g_getI (pc' := 4) dX10_settle_1 rfl f_X10_194 rfl rfl (fun v1 ev1 rv1 => ?_)
    refine g_if_le (pc' := 7) (tgt := 101) rv1 dX10_settle_4 rfl rfl (fun c2 => ?_) (fun c2 => ?_)
    · refine g_vreturn dX10_settle_101 ?_
      exact ⟨ic1, fr1, q97_10, q97_44, q97_33, q97_12, q97_19, q97_24, q97_28, q97_13, q97_14, q97_15, q97_16, q97_18, q97_17, si1, ht1, lo1, STQ.fin sq1 (Or.inl (by omega)), sx1, RLG.fin rl1 (by omega) (Or.inl (by omega))⟩
    · refine g_aload_n (pc' := 8) 0 dX10_settle_7 rfl rfl ?_
      refine g_getR (pc' := 11) dX10_settle_8 rfl f_X10_52 rfl rfl ?_
      refine g_aload_n (pc' := 12) 0 dX10_settle_11 rfl rfl ?_
      refine g_getI (pc' := 15) dX10_settle_12 rfl f_X10_194 rfl rfl (fun v3 ev3 rv3 => ?_)
      obtain rfl : v1 = v3 := ev1.trans ev3.symm
      refine g_iconst (pc' := 16) dX10_settle_15 rfl ?_
      refine g_isub (pc' := 17) dX10_settle_16 rfl ?_
      refine g_iald (pc' := 18) dX10_settle_17 rfl rfl (by omega) (by omega) (fun v4 ev4 rv4 => ?_)
      have gv4 : v4 = M1 110 (v1 - 1).toNat := by rw [ev4]
      have dv4 := SI.pile si1 (i := (v1 - 1)) (by omega) (by omega) gv4
      refine g_callSip (pc' := 21) (As := [vi v4]) (S := []) dX10_settle_18 rfl m_X10_197 w_X10_binds (c_X10_binds X M1 v4 rv4) rfl (by decide) (by decide) rfl (Nat.le_of_ble_eq_true rfl) (fun z6 q5 => ?_)
      refine g_iload_n (pc' := 22) 1 dX10_settle_21 rfl rfl ?_
      refine g_ic_lt (pc' := 25) (tgt := 101) ⟨by omega, by omega⟩ hl dX10_settle_22 rfl rfl (fun c7 => ?_) (fun c7 => ?_)
      · refine g_vreturn dX10_settle_101 ?_
        exact ⟨ic1, fr1, q97_10, q97_44, q97_33, q97_12, q97_19, q97_24, q97_28, q97_13, q97_14, q97_15, q97_16, q97_18, q97_17, si1, ht1, lo1, STQ.fin sq1 (Or.inr (by rw [← fr1 110 (by decide), ← show (v1 - 1) = M1 97 27 - 1 by omega, ← gv4]; omega)), sx1, RLG.fin rl1 (by omega) (Or.inr (by rw [← show (v1 - 1) = M1 97 27 - 1 by omega, ← gv4]; omega))⟩
      · refine g_aload_n (pc' := 26) 0 dX10_settle_25 rfl rfl ?_
        refine g_dup (pc' := 27) dX10_settle_26 rfl rfl ?_
        refine g_getI (pc' := 30) dX10_settle_27 rfl f_X10_194 rfl rfl (fun v8 ev8 rv8 => ?_)
        obtain rfl : v1 = v8 := ev1.trans ev8.symm
        refine g_iconst (pc' := 31) dX10_settle_30 rfl ?_
        refine g_isub (pc' := 32) dX10_settle_31 rfl ?_
        refine g_putI (pc' := 35) dX10_settle_32 rfl p_X10_194 rfl rfl ⟨by omega, by omega⟩ (fun M9 hM9 => ?_)
        have iM9 : IM M9 := IM.wr ic1 hM9 (by unfold okv; first | decide | omega)
        have fM9 : Fr (fun c => c = 97 ∨ c = 108 ∨ c = 109) M M9 := Fr.wr fr1 hM9 (by first | decide | omega | (dsimp only; omega))
        have q97_10_M9 : (M9 97 10 = M 97 10) := (show M9 97 10 = M1 97 10 by rw [hM9]; exact mu_ne _ _ (by first | decide | omega)).trans q97_10
        have q97_44_M9 : (M9 97 44 = M 97 44) := (show M9 97 44 = M1 97 44 by rw [hM9]; exact mu_ne _ _ (by first | decide | omega)).trans q97_44
        have q97_33_M9 : (M9 97 33 = M 97 33) := (show M9 97 33 = M1 97 33 by rw [hM9]; exact mu_ne _ _ (by first | decide | omega)).trans q97_33
        have q97_12_M9 : (M9 97 12 = M 97 12) := (show M9 97 12 = M1 97 12 by rw [hM9]; exact mu_ne _ _ (by first | decide | omega)).trans q97_12
        have q97_19_M9 : (M9 97 19 = M 97 19) := (show M9 97 19 = M1 97 19 by rw [hM9]; exact mu_ne _ _ (by first | decide | omega)).trans q97_19
        have q97_24_M9 : (M9 97 24 = M 97 24) := (show M9 97 24 = M1 97 24 by rw [hM9]; exact mu_ne _ _ (by first | decide | omega)).trans q97_24
        have q97_28_M9 : (M9 97 28 = M 97 28) := (show M9 97 28 = M1 97 28 by rw [hM9]; exact mu_ne _ _ (by first | decide | omega)).trans q97_28
        have q97_13_M9 : (M9 97 13 = M 97 13) := (show M9 97 13 = M1 97 13 by rw [hM9]; exact mu_ne _ _ (by first | decide | omega)).trans q97_13
        have q97_14_M9 : (M9 97 14 = M 97 14) := (show M9 97 14 = M1 97 14 by rw [hM9]; exact mu_ne _ _ (by first | decide | omega)).trans q97_14
        have q97_15_M9 : (M9 97 15 = M 97 15) := (show M9 97 15 = M1 97 15 by rw [hM9]; exact mu_ne _ _ (by first | decide | omega)).trans q97_15
        have q97_16_M9 : (M9 97 16 = M 97 16) := (show M9 97 16 = M1 97 16 by rw [hM9]; exact mu_ne _ _ (by first | decide | omega)).trans q97_16
        have q97_18_M9 : (M9 97 18 = M 97 18) := (show M9 97 18 = M1 97 18 by rw [hM9]; exact mu_ne _ _ (by first | decide | omega)).trans q97_18
        have q97_17_M9 : (M9 97 17 = M 97 17) := (show M9 97 17 = M1 97 17 by rw [hM9]; exact mu_ne _ _ (by first | decide | omega)).trans q97_17
        have wM9_97_13 : M9 97 13 = M1 97 13 := by rw [hM9]; exact mu_ne _ _ (by first | decide | omega)
        have wM9_97_21 : M9 97 21 = M1 97 21 := by rw [hM9]; exact mu_ne _ _ (by first | decide | omega)
        have xM9_97_27 : M9 97 27 = v1 - 1 := by rw [hM9]; exact mu_at _ _ _ _
        refine g_aload_n (pc' := 36) 0 dX10_settle_35 rfl rfl ?_
        refine g_getR (pc' := 39) dX10_settle_36 rfl f_X10_52 rfl rfl ?_
        refine g_aload_n (pc' := 40) 0 dX10_settle_39 rfl rfl ?_
        refine g_getI (pc' := 43) dX10_settle_40 rfl f_X10_194 rfl rfl (fun v10 ev10 rv10 => ?_)
        have yv10 : v10 = v1 - 1 := ev10.trans xM9_97_27
        refine g_iald (pc' := 44) dX10_settle_43 rfl rfl (by omega) (by omega) (fun v11 ev11 rv11 => ?_)
        have gv11 : v11 = M1 110 v10.toNat := by rw [ev11, hM9, mu_cell _ _ (by decide)]
        have dv11 := SI.pile si1 (i := v10) (by omega) (by omega) gv11
        have uv11 : v11 = v4 := by rw [gv11, gv4, show v10 = (v1 - 1) by omega]
        refine g_bipush (pc' := 46) (v := 28) dX10_settle_44 rfl (by decide) ?_
        refine g_ic_eq (pc' := 49) (tgt := 63) rv11 (by decide) dX10_settle_46 rfl rfl (fun c12 => ?_) (fun c12 => ?_)
        · refine g_aload_n (pc' := 64) 0 dX10_settle_63 rfl rfl ?_
          refine g_getR (pc' := 67) dX10_settle_64 rfl f_X10_49 rfl rfl ?_
          refine g_aload_n (pc' := 68) 0 dX10_settle_67 rfl rfl ?_
          refine g_getR (pc' := 71) dX10_settle_68 rfl f_X10_55 rfl rfl ?_
          refine g_aload_n (pc' := 72) 0 dX10_settle_71 rfl rfl ?_
          refine g_getI (pc' := 75) dX10_settle_72 rfl f_X10_194 rfl rfl (fun v13 ev13 rv13 => ?_)
          obtain rfl : v10 = v13 := ev10.trans ev13.symm
          refine g_iald (pc' := 76) dX10_settle_75 rfl rfl (by omega) (by omega) (fun v14 ev14 rv14 => ?_)
          have gv14 : v14 = M1 111 v10.toNat := by rw [ev14, hM9, mu_cell _ _ (by decide)]
          have dv14 := SI.at_ si1 (i := v10) (by omega) (by omega) (v := v4) (by rw [show v10 = (v1 - 1) by omega]; exact gv4) (by omega) gv14
          refine g_aload_n (pc' := 77) 0 dX10_settle_76 rfl rfl ?_
          refine g_getI (pc' := 80) dX10_settle_77 rfl f_X10_191 rfl rfl (fun v15 ev15 rv15 => ?_)
          refine g_iast (pc' := 81) dX10_settle_80 rfl rfl (by omega) (by omega) rv15 (fun M16 hM16 => ?_)
          have iM16 : IM M16 := IM.wr iM9 hM16 (by unfold okv; first | decide | omega)
          have fM16 : Fr (fun c => c = 97 ∨ c = 108 ∨ c = 109) M M16 := Fr.wr fM9 hM16 (by first | decide | omega | (dsimp only; omega))
          have q97_10_M16 : (M16 97 10 = M 97 10) := (show M16 97 10 = M9 97 10 by rw [hM16]; exact mu_ne _ _ (by first | decide | omega)).trans q97_10_M9
          have q97_44_M16 : (M16 97 44 = M 97 44) := (show M16 97 44 = M9 97 44 by rw [hM16]; exact mu_ne _ _ (by first | decide | omega)).trans q97_44_M9
          have q97_33_M16 : (M16 97 33 = M 97 33) := (show M16 97 33 = M9 97 33 by rw [hM16]; exact mu_ne _ _ (by first | decide | omega)).trans q97_33_M9
          have q97_12_M16 : (M16 97 12 = M 97 12) := (show M16 97 12 = M9 97 12 by rw [hM16]; exact mu_ne _ _ (by first | decide | omega)).trans q97_12_M9
          have q97_19_M16 : (M16 97 19 = M 97 19) := (show M16 97 19 = M9 97 19 by rw [hM16]; exact mu_ne _ _ (by first | decide | omega)).trans q97_19_M9
          have q97_24_M16 : (M16 97 24 = M 97 24) := (show M16 97 24 = M9 97 24 by rw [hM16]; exact mu_ne _ _ (by first | decide | omega)).trans q97_24_M9
          have q97_28_M16 : (M16 97 28 = M 97 28) := (show M16 97 28 = M9 97 28 by rw [hM16]; exact mu_ne _ _ (by first | decide | omega)).trans q97_28_M9
          have q97_13_M16 : (M16 97 13 = M 97 13) := (show M16 97 13 = M9 97 13 by rw [hM16]; exact mu_ne _ _ (by first | decide | omega)).trans q97_13_M9
          have q97_14_M16 : (M16 97 14 = M 97 14) := (show M16 97 14 = M9 97 14 by rw [hM16]; exact mu_ne _ _ (by first | decide | omega)).trans q97_14_M9
          have q97_15_M16 : (M16 97 15 = M 97 15) := (show M16 97 15 = M9 97 15 by rw [hM16]; exact mu_ne _ _ (by first | decide | omega)).trans q97_15_M9
          have q97_16_M16 : (M16 97 16 = M 97 16) := (show M16 97 16 = M9 97 16 by rw [hM16]; exact mu_ne _ _ (by first | decide | omega)).trans q97_16_M9
          have q97_18_M16 : (M16 97 18 = M 97 18) := (show M16 97 18 = M9 97 18 by rw [hM16]; exact mu_ne _ _ (by first | decide | omega)).trans q97_18_M9
          have q97_17_M16 : (M16 97 17 = M 97 17) := (show M16 97 17 = M9 97 17 by rw [hM16]; exact mu_ne _ _ (by first | decide | omega)).trans q97_17_M9
          have wM16_97_13 : M16 97 13 = M9 97 13 := by rw [hM16]; exact mu_ne _ _ (by first | decide | omega)
          have wM16_97_21 : M16 97 21 = M9 97 21 := by rw [hM16]; exact mu_ne _ _ (by first | decide | omega)
          have wM16_97_27 : M16 97 27 = M9 97 27 := by rw [hM16]; exact mu_ne _ _ (by first | decide | omega)
          have xM16_97_27 : M16 97 27 = v1 - 1 := (show M16 97 27 = M9 97 27 by rw [hM16]; exact mu_ne _ _ (by first | decide | omega)).trans xM9_97_27
          have CM16_108 : M16 108 = M1 108 := by rw [hM16, mu_cell _ _ (by decide), hM9, mu_cell _ _ (by decide)]
          have CM16_110 : M16 110 = M1 110 := by rw [hM16, mu_cell _ _ (by decide), hM9, mu_cell _ _ (by decide)]
          have CM16_111 : M16 111 = M1 111 := by rw [hM16, mu_cell _ _ (by decide), hM9, mu_cell _ _ (by decide)]
          have CM16_109 : M16 109 = ms (M1 109) v14.toNat v15 := by rw [hM16, mu_is, hM9, mu_cell _ _ (by decide)]
          have gv0 : v4 = M1 110 (M1 97 27 - 1).toNat := by rw [gv4, show (v1 - 1) = M1 97 27 - 1 by omega]
          have gw0 : v14 = M1 111 (M1 97 27 - 1).toNat := by rw [gv14, show v10 = M1 97 27 - 1 by omega]
          have siM16 : SI M16 F0 := SI.drop si1 (by omega) (by omega) CM16_110 CM16_111 (by omega) (by omega)
          have htM16 : HT M M16 F0 := fun z => HI.patch si1 (ht1 z) (by omega) (by omega) gv0 (by omega) CM16_108 gw0 (by omega) CM16_109 CM16_110 CM16_111 (by omega)
          have loM16 : LO M M16 F0 := LO.tr lo1 (LO.ar CM16_108 CM16_109 (by omega))
          have bqM16 : l ≤ bnd (M 110 (M1 97 27 - 1).toNat) := by rw [← fr1 110 (by decide), ← gv0]; omega
          have sqM16 : STQ M M16 l := STQ.step sq1 (by omega) (by omega) bqM16
          have sxM16 : SX M M16 := SX.drop sx1 (by omega) (by omega) (by omega)
          have rlM16 : RLG M M16 F0 l := RLG.pat rl1 (by omega) (by omega) gv0 (by omega) (by omega) gw0 (by omega) (n := v15) (by omega) CM16_108 CM16_109 CM16_110 CM16_111 (by omega) (by omega)
          refine g_goto (tgt := 0) dX10_settle_81 rfl ?_
          refine g_sub [0, 1] rfl ?_
          exact ih _ (by omega) M16 iM16 fM16 q97_10_M16 q97_44_M16 q97_33_M16 q97_12_M16 q97_19_M16 q97_24_M16 q97_28_M16 q97_13_M16 q97_14_M16 q97_15_M16 q97_16_M16 q97_18_M16 q97_17_M16 siM16 htM16 loM16 sqM16 sxM16 rlM16 rfl
        · refine g_aload_n (pc' := 50) 0 dX10_settle_49 rfl rfl ?_
          refine g_getR (pc' := 53) dX10_settle_50 rfl f_X10_52 rfl rfl ?_
          refine g_aload_n (pc' := 54) 0 dX10_settle_53 rfl rfl ?_
          refine g_getI (pc' := 57) dX10_settle_54 rfl f_X10_194 rfl rfl (fun v17 ev17 rv17 => ?_)
          obtain rfl : v10 = v17 := ev10.trans ev17.symm
          refine g_iald (pc' := 58) dX10_settle_57 rfl rfl (by omega) (by omega) (fun v18 ev18 rv18 => ?_)
          obtain rfl : v11 = v18 := ev11.trans ev18.symm
          refine g_bipush (pc' := 60) (v := 29) dX10_settle_58 rfl (by decide) ?_
          refine g_ic_ne (pc' := 63) (tgt := 84) rv11 (by decide) dX10_settle_60 rfl rfl (fun c19 => ?_) (fun c19 => ?_)
          · refine g_aload_n (pc' := 85) 0 dX10_settle_84 rfl rfl ?_
            refine g_aload_n (pc' := 86) 0 dX10_settle_85 rfl rfl ?_
            refine g_getR (pc' := 89) dX10_settle_86 rfl f_X10_52 rfl rfl ?_
            refine g_aload_n (pc' := 90) 0 dX10_settle_89 rfl rfl ?_
            refine g_getI (pc' := 93) dX10_settle_90 rfl f_X10_194 rfl rfl (fun v20 ev20 rv20 => ?_)
            obtain rfl : v10 = v20 := ev10.trans ev20.symm
            refine g_iald (pc' := 94) dX10_settle_93 rfl rfl (by omega) (by omega) (fun v21 ev21 rv21 => ?_)
            obtain rfl : v11 = v21 := ev11.trans ev21.symm
            have bb0 := bnd_lo (x := v4) (l := l) (by omega) (by omega)
            have nlt := SI.lt si1 (by omega) (show (v1 - 1) = M1 97 27 - 1 by omega) gv4 (by omega)
            refine g_iconst (pc' := 95) dX10_settle_94 rfl ?_
            refine g_callVv (pc' := 98) (As := [vi v11, vi 0]) (b := 97) (S := []) dX10_settle_95 rfl m_X10_200 w_X10_emit (c_X10_emit_x X M9 iM9 v11 rv11 0 (by decide) (by omega)) rfl ⟨_, _, _, rfl, rfl, rfl⟩ (by decide) (by decide) rfl (Nat.le_of_ble_eq_true rfl) (fun M23 q22 => ?_)
            obtain ⟨iM23, fM230, eM23_97_12, eM23_97_19, eM23_97_24, eM23_97_27, eM23_97_28, eM23_97_10, eM23_97_44, eM23_97_33, eM23_97_13, eM23_97_14, eM23_97_15, eM23_97_16, eM23_97_18, eM23_97_17, pM23⟩ := q22
            have fM23 : Fr (fun c => c = 97 ∨ c = 108 ∨ c = 109) M M23 := Fr.tr fM9 fM230 (fun _ z => z)
            have q97_10_M23 : (M23 97 10 = M 97 10) := eM23_97_10.trans q97_10_M9
            have q97_44_M23 : (M23 97 44 = M 97 44) := eM23_97_44.trans q97_44_M9
            have q97_33_M23 : (M23 97 33 = M 97 33) := eM23_97_33.trans q97_33_M9
            have q97_12_M23 : (M23 97 12 = M 97 12) := eM23_97_12.trans q97_12_M9
            have q97_19_M23 : (M23 97 19 = M 97 19) := eM23_97_19.trans q97_19_M9
            have q97_24_M23 : (M23 97 24 = M 97 24) := eM23_97_24.trans q97_24_M9
            have q97_28_M23 : (M23 97 28 = M 97 28) := eM23_97_28.trans q97_28_M9
            have q97_13_M23 : (M23 97 13 = M 97 13) := eM23_97_13.trans q97_13_M9
            have q97_14_M23 : (M23 97 14 = M 97 14) := eM23_97_14.trans q97_14_M9
            have q97_15_M23 : (M23 97 15 = M 97 15) := eM23_97_15.trans q97_15_M9
            have q97_16_M23 : (M23 97 16 = M 97 16) := eM23_97_16.trans q97_16_M9
            have q97_18_M23 : (M23 97 18 = M 97 18) := eM23_97_18.trans q97_18_M9
            have q97_17_M23 : (M23 97 17 = M 97 17) := eM23_97_17.trans q97_17_M9
            have wM23_97_13 : M23 97 13 = M9 97 13 := eM23_97_13
            have wM23_97_27 : M23 97 27 = M9 97 27 := eM23_97_27
            have xM23_97_27 : M23 97 27 = v1 - 1 := eM23_97_27.trans xM9_97_27
            have CM23_110 : M23 110 = M1 110 := by rw [fM230 110 (by decide), hM9, mu_cell _ _ (by decide)]
            have CM23_111 : M23 111 = M1 111 := by rw [fM230 111 (by decide), hM9, mu_cell _ _ (by decide)]
            obtain ⟨pA, pB, pC⟩ := pM23
            have kA : M9 97 21 = M1 97 21 := by omega
            rw [kA, hM9, mu_cell _ _ (by decide)] at pA pB
            have gv0 : v11 = M1 110 (M1 97 27 - 1).toNat := by rw [uv11, gv4, show (v1 - 1) = M1 97 27 - 1 by omega]
            have bb := bnd_lo (x := v11) (l := l) (by rw [uv11]; omega) (by omega)
            have siM23 : SI M23 F0 := SI.pop si1 (by omega) (by omega) CM23_110 CM23_111 (by omega) (Or.inl ⟨by omega, by rw [← gv0]; omega, by rw [← gv0]; omega⟩)
            have htM23 : HT M M23 F0 := fun z => HI.pop si1 (ht1 z) (by omega) (by omega) gv0 (by omega) pA pB CM23_110 CM23_111 (by omega)
            have loM23 : LO M M23 F0 := LO.tr lo1 (LO.em pA pB (by omega) (by omega))
            have bqM23 : l ≤ bnd (M 110 (M1 97 27 - 1).toNat) := by rw [← fr1 110 (by decide), ← gv0, uv11]; omega
            have sqM23 : STQ M M23 l := STQ.step sq1 (by omega) (by omega) bqM23
            have sxM23 : SX M M23 := SX.pop sx1 (by omega) (by omega) (by rw [← fr1 110 (by decide), ← gv0, uv11]; omega) (by omega)
            have rlM23 : RLG M M23 F0 l := RLG.pop rl1 (by omega) (by omega) gv0 (by omega) (by rw [uv11]; omega) pA pB CM23_110 CM23_111 (by omega) (by omega)
            refine g_goto (tgt := 0) dX10_settle_98 rfl ?_
            refine g_sub [0, 1] rfl ?_
            exact ih _ (by omega) M23 iM23 fM23 q97_10_M23 q97_44_M23 q97_33_M23 q97_12_M23 q97_19_M23 q97_24_M23 q97_28_M23 q97_13_M23 q97_14_M23 q97_15_M23 q97_16_M23 q97_18_M23 q97_17_M23 siM23 htM23 loM23 sqM23 sxM23 rlM23 rfl
          · refine g_aload_n (pc' := 64) 0 dX10_settle_63 rfl rfl ?_
            refine g_getR (pc' := 67) dX10_settle_64 rfl f_X10_49 rfl rfl ?_
            refine g_aload_n (pc' := 68) 0 dX10_settle_67 rfl rfl ?_
            refine g_getR (pc' := 71) dX10_settle_68 rfl f_X10_55 rfl rfl ?_
            refine g_aload_n (pc' := 72) 0 dX10_settle_71 rfl rfl ?_
            refine g_getI (pc' := 75) dX10_settle_72 rfl f_X10_194 rfl rfl (fun v24 ev24 rv24 => ?_)
            obtain rfl : v10 = v24 := ev10.trans ev24.symm
            refine g_iald (pc' := 76) dX10_settle_75 rfl rfl (by omega) (by omega) (fun v25 ev25 rv25 => ?_)
            have gv25 : v25 = M1 111 v10.toNat := by rw [ev25, hM9, mu_cell _ _ (by decide)]
            have dv25 := SI.at_ si1 (i := v10) (by omega) (by omega) (v := v4) (by rw [show v10 = (v1 - 1) by omega]; exact gv4) (by omega) gv25
            refine g_aload_n (pc' := 77) 0 dX10_settle_76 rfl rfl ?_
            refine g_getI (pc' := 80) dX10_settle_77 rfl f_X10_191 rfl rfl (fun v26 ev26 rv26 => ?_)
            refine g_iast (pc' := 81) dX10_settle_80 rfl rfl (by omega) (by omega) rv26 (fun M27 hM27 => ?_)
            have iM27 : IM M27 := IM.wr iM9 hM27 (by unfold okv; first | decide | omega)
            have fM27 : Fr (fun c => c = 97 ∨ c = 108 ∨ c = 109) M M27 := Fr.wr fM9 hM27 (by first | decide | omega | (dsimp only; omega))
            have q97_10_M27 : (M27 97 10 = M 97 10) := (show M27 97 10 = M9 97 10 by rw [hM27]; exact mu_ne _ _ (by first | decide | omega)).trans q97_10_M9
            have q97_44_M27 : (M27 97 44 = M 97 44) := (show M27 97 44 = M9 97 44 by rw [hM27]; exact mu_ne _ _ (by first | decide | omega)).trans q97_44_M9
            have q97_33_M27 : (M27 97 33 = M 97 33) := (show M27 97 33 = M9 97 33 by rw [hM27]; exact mu_ne _ _ (by first | decide | omega)).trans q97_33_M9
            have q97_12_M27 : (M27 97 12 = M 97 12) := (show M27 97 12 = M9 97 12 by rw [hM27]; exact mu_ne _ _ (by first | decide | omega)).trans q97_12_M9
            have q97_19_M27 : (M27 97 19 = M 97 19) := (show M27 97 19 = M9 97 19 by rw [hM27]; exact mu_ne _ _ (by first | decide | omega)).trans q97_19_M9
            have q97_24_M27 : (M27 97 24 = M 97 24) := (show M27 97 24 = M9 97 24 by rw [hM27]; exact mu_ne _ _ (by first | decide | omega)).trans q97_24_M9
            have q97_28_M27 : (M27 97 28 = M 97 28) := (show M27 97 28 = M9 97 28 by rw [hM27]; exact mu_ne _ _ (by first | decide | omega)).trans q97_28_M9
            have q97_13_M27 : (M27 97 13 = M 97 13) := (show M27 97 13 = M9 97 13 by rw [hM27]; exact mu_ne _ _ (by first | decide | omega)).trans q97_13_M9
            have q97_14_M27 : (M27 97 14 = M 97 14) := (show M27 97 14 = M9 97 14 by rw [hM27]; exact mu_ne _ _ (by first | decide | omega)).trans q97_14_M9
            have q97_15_M27 : (M27 97 15 = M 97 15) := (show M27 97 15 = M9 97 15 by rw [hM27]; exact mu_ne _ _ (by first | decide | omega)).trans q97_15_M9
            have q97_16_M27 : (M27 97 16 = M 97 16) := (show M27 97 16 = M9 97 16 by rw [hM27]; exact mu_ne _ _ (by first | decide | omega)).trans q97_16_M9
            have q97_18_M27 : (M27 97 18 = M 97 18) := (show M27 97 18 = M9 97 18 by rw [hM27]; exact mu_ne _ _ (by first | decide | omega)).trans q97_18_M9
            have q97_17_M27 : (M27 97 17 = M 97 17) := (show M27 97 17 = M9 97 17 by rw [hM27]; exact mu_ne _ _ (by first | decide | omega)).trans q97_17_M9
            have wM27_97_13 : M27 97 13 = M9 97 13 := by rw [hM27]; exact mu_ne _ _ (by first | decide | omega)
            have wM27_97_21 : M27 97 21 = M9 97 21 := by rw [hM27]; exact mu_ne _ _ (by first | decide | omega)
            have wM27_97_27 : M27 97 27 = M9 97 27 := by rw [hM27]; exact mu_ne _ _ (by first | decide | omega)
            have xM27_97_27 : M27 97 27 = v1 - 1 := (show M27 97 27 = M9 97 27 by rw [hM27]; exact mu_ne _ _ (by first | decide | omega)).trans xM9_97_27
            have CM27_108 : M27 108 = M1 108 := by rw [hM27, mu_cell _ _ (by decide), hM9, mu_cell _ _ (by decide)]
            have CM27_110 : M27 110 = M1 110 := by rw [hM27, mu_cell _ _ (by decide), hM9, mu_cell _ _ (by decide)]
            have CM27_111 : M27 111 = M1 111 := by rw [hM27, mu_cell _ _ (by decide), hM9, mu_cell _ _ (by decide)]
            have CM27_109 : M27 109 = ms (M1 109) v25.toNat v26 := by rw [hM27, mu_is, hM9, mu_cell _ _ (by decide)]
            have gv0 : v4 = M1 110 (M1 97 27 - 1).toNat := by rw [gv4, show (v1 - 1) = M1 97 27 - 1 by omega]
            have gw0 : v25 = M1 111 (M1 97 27 - 1).toNat := by rw [gv25, show v10 = M1 97 27 - 1 by omega]
            have siM27 : SI M27 F0 := SI.drop si1 (by omega) (by omega) CM27_110 CM27_111 (by omega) (by omega)
            have htM27 : HT M M27 F0 := fun z => HI.patch si1 (ht1 z) (by omega) (by omega) gv0 (by omega) CM27_108 gw0 (by omega) CM27_109 CM27_110 CM27_111 (by omega)
            have loM27 : LO M M27 F0 := LO.tr lo1 (LO.ar CM27_108 CM27_109 (by omega))
            have bqM27 : l ≤ bnd (M 110 (M1 97 27 - 1).toNat) := by rw [← fr1 110 (by decide), ← gv0]; omega
            have sqM27 : STQ M M27 l := STQ.step sq1 (by omega) (by omega) bqM27
            have sxM27 : SX M M27 := SX.drop sx1 (by omega) (by omega) (by omega)
            have rlM27 : RLG M M27 F0 l := RLG.pat rl1 (by omega) (by omega) gv0 (by omega) (by omega) gw0 (by omega) (n := v26) (by omega) CM27_108 CM27_109 CM27_110 CM27_111 (by omega) (by omega)
            refine g_goto (tgt := 0) dX10_settle_81 rfl ?_
            refine g_sub [0, 1] rfl ?_
            exact ih _ (by omega) M27 iM27 fM27 q97_10_M27 q97_44_M27 q97_33_M27 q97_12_M27 q97_19_M27 q97_24_M27 q97_28_M27 q97_13_M27 q97_14_M27 q97_15_M27 q97_16_M27 q97_18_M27 q97_17_M27 siM27 htM27 loM27 sqM27 sxM27 rlM27 rfl
set_option maxHeartbeats 4000000 in
set_option maxRecDepth 100000 in
theorem c_X10_settle_z (X : Cx) (M : Mm) (hi : IM M) (l : Int) (hl : inI l) (F0 : Int) (hs : SI M F0) (hl6 : 1 ≤ l ∧ l ≤ 6) : Con X 1 yX10_settle cX10_settle 2 none [vr X 97, vi l] M (Qv (fun M1 => IM M1 ∧ Fr (fun c => c = 97 ∨ c = 108 ∨ c = 109) M M1 ∧ M1 97 10 = M 97 10 ∧ M1 97 44 = M 97 44 ∧ M1 97 33 = M 97 33 ∧ M1 97 12 = M 97 12 ∧ M1 97 19 = M 97 19 ∧ M1 97 24 = M 97 24 ∧ M1 97 28 = M 97 28 ∧ M1 97 13 = M 97 13 ∧ M1 97 14 = M 97 14 ∧ M1 97 15 = M 97 15 ∧ M1 97 16 = M 97 16 ∧ M1 97 18 = M 97 18 ∧ M1 97 17 = M 97 17 ∧ (SI M1 F0 ∧ HT M M1 F0 ∧ LO M M1 F0 ∧ STP M M1 l ∧ SX M M1 ∧ RLF M M1 F0 l))) := by
  refine Con.ofG rfl (Nat.le_of_ble_eq_true rfl) ?_
  show G X 1 RX10 cX10_settle 2 none (Qv (fun M1 => IM M1 ∧ Fr (fun c => c = 97 ∨ c = 108 ∨ c = 109) M M1 ∧ M1 97 10 = M 97 10 ∧ M1 97 44 = M 97 44 ∧ M1 97 33 = M 97 33 ∧ M1 97 12 = M 97 12 ∧ M1 97 19 = M 97 19 ∧ M1 97 24 = M 97 24 ∧ M1 97 28 = M 97 28 ∧ M1 97 13 = M 97 13 ∧ M1 97 14 = M 97 14 ∧ M1 97 15 = M 97 15 ∧ M1 97 16 = M 97 16 ∧ M1 97 18 = M 97 18 ∧ M1 97 17 = M 97 17 ∧ (SI M1 F0 ∧ HT M M1 F0 ∧ LO M M1 F0 ∧ STP M M1 l ∧ SX M M1 ∧ RLF M M1 F0 l))) 0 [(0, vr X 97), (1, vi l)] [] M
  refine g_sub [0, 1] rfl ?_
  exact l_X10_settle_z_0 X M hi l hl F0 hs hl6 _ M hi Fr.rf rfl rfl rfl rfl rfl rfl rfl rfl rfl rfl rfl rfl rfl hs (fun z => z) (LO.rf _ _) (STQ.rf _ (hs.ar).2.1.1) (SX.rf _) (RLG.rf _ _ _) rfl
set_option maxHeartbeats 4000000 in
set_option maxRecDepth 100000 in
theorem c_X10_openBracket_z (X : Cx) (M : Mm) (hi : IM M) (a : Int) (ha : inI a) (F0 : Int) (hs0 : SI M F0) (hh0 : HI M F0 0) (t : Int) (hq0 : SQ M t) (htk : TK M) (hat : (a = 30 ∧ t = 0) ∨ a = 31) (hso : M 97 15 ≠ 0) (hbad : M 97 18 = 0) (K W S E : Nat → Int) (m i : Nat) (lv : Int) (ops : List Int) (vs : List Mng) (hz : TZM M K W S E m) (hf : RFo K W S E m M i lv ops) (hrq : RLq M F0 ops vs) (hnt : a = 30 → NTo ops) : Con X 3 yX10_openBracket cX10_openBracket 2 none [vr X 97, vi a] M (Qv (fun M1 => IM M1 ∧ Fr (fun c => c = 97 ∨ c = 110 ∨ c = 111) M M1 ∧ M1 97 12 = M 97 12 ∧ M1 97 19 = M 97 19 ∧ M1 97 10 = M 97 10 ∧ M1 97 44 = M 97 44 ∧ M1 97 33 = M 97 33 ∧ ((OBQ K W S E m i lv ops a M1) ∧ (M1 97 18 = 0 → RLq M1 F0 (a :: ops) vs) ∧ PS M1 F0 (a - 30) ∧ LO M M1 F0 ∧ TK M1 ∧ M 97 13 ≤ M1 97 13 ∧ (M1 97 18 = 0 → M 97 13 < M1 97 13)))) := by
  refine Con.ofG rfl (Nat.le_of_ble_eq_true rfl) ?_
  show G X 3 RX10 cX10_openBracket 2 none (Qv (fun M1 => IM M1 ∧ Fr (fun c => c = 97 ∨ c = 110 ∨ c = 111) M M1 ∧ M1 97 12 = M 97 12 ∧ M1 97 19 = M 97 19 ∧ M1 97 10 = M 97 10 ∧ M1 97 44 = M 97 44 ∧ M1 97 33 = M 97 33 ∧ ((OBQ K W S E m i lv ops a M1) ∧ (M1 97 18 = 0 → RLq M1 F0 (a :: ops) vs) ∧ PS M1 F0 (a - 30) ∧ LO M M1 F0 ∧ TK M1 ∧ M 97 13 ≤ M1 97 13 ∧ (M1 97 18 = 0 → M 97 13 < M1 97 13)))) 0 [(0, vr X 97), (1, vi a)] [] M
  have p12 := hi.2.2.2.1
  have sa0 := hs0.ar
  have tb0 := htk.b
  have lt0 := htk.lt
  have hf2 := hf.2.1
  have hf3 := hf.2.2.1
  have aw0 := hf.1.w hz
  have on0 := opn_nn ops
  refine g_aload_n (pc' := 1) 0 dX10_openBracket_0 rfl rfl ?_
  refine g_aload_n (pc' := 2) 0 dX10_openBracket_1 rfl rfl ?_
  refine g_getI (pc' := 5) dX10_openBracket_2 rfl f_X10_212 rfl rfl (fun v1 ev1 rv1 => ?_)
  refine g_bipush (pc' := 7) (v := 8) dX10_openBracket_5 rfl (by decide) ?_
  refine g_ic_ge (pc' := 10) (tgt := 14) rv1 (by decide) dX10_openBracket_7 rfl rfl (fun c2 => ?_) (fun c2 => ?_)
  · refine g_iconst (pc' := 15) dX10_openBracket_14 rfl ?_
    refine g_callVv (pc' := 18) (As := [vi 0]) (b := 97) (S := []) dX10_openBracket_15 rfl m_X10_187 w_X10_must (c_X10_must_x X M hi 0 (by decide) htk) rfl ⟨_, _, _, rfl, rfl, rfl⟩ (by decide) (by decide) rfl (Nat.le_of_ble_eq_true rfl) (fun M4 q3 => ?_)
    obtain ⟨iM4, fM40, eM4_97_12, eM4_97_19, eM4_97_21, eM4_97_24, eM4_97_27, eM4_97_28, eM4_97_10, eM4_97_44, eM4_97_33, pM4⟩ := q3
    have fM4 : Fr (fun c => c = 97 ∨ c = 110 ∨ c = 111) M M4 := Fr.tr Fr.rf fM40 fi_43
    have q97_12_M4 : (M4 97 12 = M 97 12) := eM4_97_12
    have q97_19_M4 : (M4 97 19 = M 97 19) := eM4_97_19
    have q97_10_M4 : (M4 97 10 = M 97 10) := eM4_97_10
    have q97_44_M4 : (M4 97 44 = M 97 44) := eM4_97_44
    have q97_33_M4 : (M4 97 33 = M 97 33) := eM4_97_33
    have wM4_97_12 : M4 97 12 = M 97 12 := eM4_97_12
    have wM4_97_21 : M4 97 21 = M 97 21 := eM4_97_21
    have wM4_97_24 : M4 97 24 = M 97 24 := eM4_97_24
    have wM4_97_27 : M4 97 27 = M 97 27 := eM4_97_27
    have wM4_97_28 : M4 97 28 = M 97 28 := eM4_97_28
    have tzM4 : TZM M4 K W S E m := TZM.eq hz (fM40 106 (by decide)) eM4_97_12
    obtain ⟨xxM4, pM4⟩ := pM4
    have muM4 := xxM4.at_ hz hf.1 hbad (fun z => by omega)
    have CM4_108 : M4 108 = M 108 := fM40 108 (by decide)
    have CM4_109 : M4 109 = M 109 := fM40 109 (by decide)
    have CM4_110 : M4 110 = M 110 := fM40 110 (by decide)
    have CM4_111 : M4 111 = M 111 := fM40 111 (by decide)
    obtain ⟨aM4p, bM4p, cM4p, kM4p⟩ := pM4
    have tkM4 : TK M4 := kM4p
    clear kM4p
    have tbM4 := tkM4.b
    have siM4 : SI M4 F0 := SI.nx hs0 CM4_110 CM4_111 (by omega) (by omega) (by omega) (by omega)
    have hiM4 := HI.nx hh0 CM4_108 CM4_109 CM4_110 CM4_111 (by omega) (by omega)
    have sqM4 : SQ M4 t := SQ.nx hq0 CM4_110 (by omega) (by omega)
    have loM4 : LO M M4 F0 := LO.tr (LO.rf _ _) (LO.eq CM4_108 CM4_109)
    refine g_aload_n (pc' := 19) 0 dX10_openBracket_18 rfl rfl ?_
    refine g_getI (pc' := 22) dX10_openBracket_19 rfl f_X10_154 rfl rfl (fun v5 ev5 rv5 => ?_)
    refine g_if_ne (pc' := 25) (tgt := 41) rv5 dX10_openBracket_22 rfl rfl (fun c6 => ?_) (fun c6 => ?_)
    · refine g_vreturn dX10_openBracket_41 ?_
      exact ⟨iM4, fM4, q97_12_M4, q97_19_M4, q97_10_M4, q97_44_M4, q97_33_M4, Or.inr ⟨by omega, by omega, by omega⟩, (fun z => absurd z (by omega)), PS.bad siM4 (by omega), LO.eq CM4_108 CM4_109, tkM4, by omega, by omega⟩
    · refine g_aload_n (pc' := 26) 0 dX10_openBracket_25 rfl rfl ?_
      refine g_dup (pc' := 27) dX10_openBracket_26 rfl rfl ?_
      refine g_getI (pc' := 30) dX10_openBracket_27 rfl f_X10_212 rfl rfl (fun v7 ev7 rv7 => ?_)
      refine g_iconst (pc' := 31) dX10_openBracket_30 rfl ?_
      refine g_iadd (pc' := 32) dX10_openBracket_31 rfl ?_
      refine g_putI (pc' := 35) dX10_openBracket_32 rfl p_X10_212 rfl rfl ⟨by omega, by omega⟩ (fun M8 hM8 => ?_)
      have iM8 : IM M8 := IM.wr iM4 hM8 (by unfold okv; first | decide | omega)
      have fM8 : Fr (fun c => c = 97 ∨ c = 110 ∨ c = 111) M M8 := Fr.wr fM4 hM8 (by first | decide | omega | (dsimp only; omega))
      have q97_12_M8 : (M8 97 12 = M 97 12) := (show M8 97 12 = M4 97 12 by rw [hM8]; exact mu_ne _ _ (by first | decide | omega)).trans q97_12_M4
      have q97_19_M8 : (M8 97 19 = M 97 19) := (show M8 97 19 = M4 97 19 by rw [hM8]; exact mu_ne _ _ (by first | decide | omega)).trans q97_19_M4
      have q97_10_M8 : (M8 97 10 = M 97 10) := (show M8 97 10 = M4 97 10 by rw [hM8]; exact mu_ne _ _ (by first | decide | omega)).trans q97_10_M4
      have q97_44_M8 : (M8 97 44 = M 97 44) := (show M8 97 44 = M4 97 44 by rw [hM8]; exact mu_ne _ _ (by first | decide | omega)).trans q97_44_M4
      have q97_33_M8 : (M8 97 33 = M 97 33) := (show M8 97 33 = M4 97 33 by rw [hM8]; exact mu_ne _ _ (by first | decide | omega)).trans q97_33_M4
      have wM8_97_12 : M8 97 12 = M4 97 12 := by rw [hM8]; exact mu_ne _ _ (by first | decide | omega)
      have wM8_97_13 : M8 97 13 = M4 97 13 := by rw [hM8]; exact mu_ne _ _ (by first | decide | omega)
      have wM8_97_14 : M8 97 14 = M4 97 14 := by rw [hM8]; exact mu_ne _ _ (by first | decide | omega)
      have wM8_97_15 : M8 97 15 = M4 97 15 := by rw [hM8]; exact mu_ne _ _ (by first | decide | omega)
      have wM8_97_16 : M8 97 16 = M4 97 16 := by rw [hM8]; exact mu_ne _ _ (by first | decide | omega)
      have wM8_97_17 : M8 97 17 = M4 97 17 := by rw [hM8]; exact mu_ne _ _ (by first | decide | omega)
      have wM8_97_18 : M8 97 18 = M4 97 18 := by rw [hM8]; exact mu_ne _ _ (by first | decide | omega)
      have wM8_97_21 : M8 97 21 = M4 97 21 := by rw [hM8]; exact mu_ne _ _ (by first | decide | omega)
      have wM8_97_24 : M8 97 24 = M4 97 24 := by rw [hM8]; exact mu_ne _ _ (by first | decide | omega)
      have wM8_97_27 : M8 97 27 = M4 97 27 := by rw [hM8]; exact mu_ne _ _ (by first | decide | omega)
      have xM8_97_28 : M8 97 28 = v7 + 1 := by rw [hM8]; exact mu_at _ _ _ _
      have CM8_108 : M8 108 = M 108 := by rw [hM8, mu_cell _ _ (by decide), CM4_108]
      have CM8_109 : M8 109 = M 109 := by rw [hM8, mu_cell _ _ (by decide), CM4_109]
      have CM8_110 : M8 110 = M 110 := by rw [hM8, mu_cell _ _ (by decide), CM4_110]
      have CM8_111 : M8 111 = M 111 := by rw [hM8, mu_cell _ _ (by decide), CM4_111]
      have tkM8 : TK M8 := TK.eq tkM4 (show M8 97 12 = M4 97 12 by rw [hM8]; exact mu_ne _ _ (by first | decide | omega)) (show M8 97 13 = M4 97 13 by rw [hM8]; exact mu_ne _ _ (by first | decide | omega)) (show M8 97 14 = M4 97 14 by rw [hM8]; exact mu_ne _ _ (by first | decide | omega)) (show M8 97 15 = M4 97 15 by rw [hM8]; exact mu_ne _ _ (by first | decide | omega)) (show M8 97 16 = M4 97 16 by rw [hM8]; exact mu_ne _ _ (by first | decide | omega))
      have tzM8 : TZM M8 K W S E m := TZM.eq tzM4 (by rw [hM8]; exact mu_cell _ _ (by decide)) (show M8 97 12 = M4 97 12 by rw [hM8]; exact mu_ne _ _ (by first | decide | omega))
      refine g_aload_n (pc' := 36) 0 dX10_openBracket_35 rfl rfl ?_
      refine g_iload_n (pc' := 37) 1 dX10_openBracket_36 rfl rfl ?_
      refine g_iconst (pc' := 38) dX10_openBracket_37 rfl ?_
      refine g_callVv (pc' := 41) (As := [vi a, vi 0]) (b := 97) (S := []) dX10_openBracket_38 rfl m_X10_215 w_X10_push (c_X10_push_x X M8 iM8 a ha 0 (by decide) (by omega)) rfl ⟨_, _, _, rfl, rfl, rfl⟩ (by decide) (by decide) rfl (Nat.le_of_ble_eq_true rfl) (fun M10 q9 => ?_)
      obtain ⟨iM10, fM100, eM10_97_12, eM10_97_19, eM10_97_21, eM10_97_24, eM10_97_28, eM10_97_10, eM10_97_44, eM10_97_33, eM10_97_13, eM10_97_14, eM10_97_15, eM10_97_16, eM10_97_18, eM10_97_17, pM10⟩ := q9
      have fM10 : Fr (fun c => c = 97 ∨ c = 110 ∨ c = 111) M M10 := Fr.tr fM8 fM100 (fun _ z => z)
      have q97_12_M10 : (M10 97 12 = M 97 12) := eM10_97_12.trans q97_12_M8
      have q97_19_M10 : (M10 97 19 = M 97 19) := eM10_97_19.trans q97_19_M8
      have q97_10_M10 : (M10 97 10 = M 97 10) := eM10_97_10.trans q97_10_M8
      have q97_44_M10 : (M10 97 44 = M 97 44) := eM10_97_44.trans q97_44_M8
      have q97_33_M10 : (M10 97 33 = M 97 33) := eM10_97_33.trans q97_33_M8
      have wM10_97_12 : M10 97 12 = M8 97 12 := eM10_97_12
      have wM10_97_13 : M10 97 13 = M8 97 13 := eM10_97_13
      have wM10_97_14 : M10 97 14 = M8 97 14 := eM10_97_14
      have wM10_97_15 : M10 97 15 = M8 97 15 := eM10_97_15
      have wM10_97_16 : M10 97 16 = M8 97 16 := eM10_97_16
      have wM10_97_17 : M10 97 17 = M8 97 17 := eM10_97_17
      have wM10_97_18 : M10 97 18 = M8 97 18 := eM10_97_18
      have wM10_97_21 : M10 97 21 = M8 97 21 := eM10_97_21
      have wM10_97_24 : M10 97 24 = M8 97 24 := eM10_97_24
      have wM10_97_28 : M10 97 28 = M8 97 28 := eM10_97_28
      have xM10_97_28 : M10 97 28 = v7 + 1 := eM10_97_28.trans xM8_97_28
      have tzM10 : TZM M10 K W S E m := TZM.eq tzM8 (fM100 106 (by decide)) eM10_97_12
      have CM10_108 : M10 108 = M 108 := (fM100 108 (by decide)).trans CM8_108
      have CM10_109 : M10 109 = M 109 := (fM100 109 (by decide)).trans CM8_109
      have CM10_110 : M10 110 = ms (M 110) (M 97 27).toNat a := by rw [pM10.1, CM8_110, show M8 97 27 = M 97 27 by omega]
      have CM10_111 : M10 111 = ms (M 111) (M 97 27).toNat 0 := by rw [pM10.2.1, CM8_111, show M8 97 27 = M 97 27 by omega]
      have tkM10 : TK M10 := TK.eq tkM8 eM10_97_12 eM10_97_13 eM10_97_14 eM10_97_15 eM10_97_16
      have ppM10 := pM10.2.2
      clear pM10
      refine g_vreturn dX10_openBracket_41 ?_
      exact ⟨iM10, fM10, q97_12_M10, q97_19_M10, q97_10_M10, q97_44_M10, q97_33_M10, Or.inl ⟨by omega, by omega, (AT.eq (muM4.resolve_right (fun z => z.1 (by omega))).2.2 (by omega) (by omega) (by omega) (by omega) (by omega)), by omega, by rw [opn_b (by omega)]; omega, PIL.push hf.2.2.2 CM10_110 (by omega)⟩, (fun _ => RLq.push hrq hf.2.2.2 (by omega) CM10_108 CM10_109 CM10_111 (by omega) (hat.elim (fun z => Or.inr ⟨Or.inr z.1, hnt z.1⟩) Or.inl)), PS.mk_ (q := 0) (SI.push hs0 (by omega) (by omega) CM10_110 CM10_111 (by omega) (by omega) (by omega) (by omega)) (HI.push hs0 hh0 (by omega) CM10_108 CM10_109 CM10_110 CM10_111 (by omega) (by omega)) (SQ.push hq0 CM10_110 (by omega) (by omega) (by omega) (by omega)) (by omega), LO.eq CM10_108 CM10_109, tkM10, by omega, by omega⟩
  · refine g_iconst (pc' := 11) dX10_openBracket_10 rfl ?_
    refine g_goto (tgt := 15) dX10_openBracket_11 rfl ?_
    refine g_callVv (pc' := 18) (As := [vi 1]) (b := 97) (S := []) dX10_openBracket_15 rfl m_X10_187 w_X10_must (c_X10_must_x X M hi 1 (by decide) htk) rfl ⟨_, _, _, rfl, rfl, rfl⟩ (by decide) (by decide) rfl (Nat.le_of_ble_eq_true rfl) (fun M12 q11 => ?_)
    obtain ⟨iM12, fM120, eM12_97_12, eM12_97_19, eM12_97_21, eM12_97_24, eM12_97_27, eM12_97_28, eM12_97_10, eM12_97_44, eM12_97_33, pM12⟩ := q11
    have fM12 : Fr (fun c => c = 97 ∨ c = 110 ∨ c = 111) M M12 := Fr.tr Fr.rf fM120 fi_43
    have q97_12_M12 : (M12 97 12 = M 97 12) := eM12_97_12
    have q97_19_M12 : (M12 97 19 = M 97 19) := eM12_97_19
    have q97_10_M12 : (M12 97 10 = M 97 10) := eM12_97_10
    have q97_44_M12 : (M12 97 44 = M 97 44) := eM12_97_44
    have q97_33_M12 : (M12 97 33 = M 97 33) := eM12_97_33
    have wM12_97_12 : M12 97 12 = M 97 12 := eM12_97_12
    have wM12_97_21 : M12 97 21 = M 97 21 := eM12_97_21
    have wM12_97_24 : M12 97 24 = M 97 24 := eM12_97_24
    have wM12_97_27 : M12 97 27 = M 97 27 := eM12_97_27
    have wM12_97_28 : M12 97 28 = M 97 28 := eM12_97_28
    have tzM12 : TZM M12 K W S E m := TZM.eq hz (fM120 106 (by decide)) eM12_97_12
    obtain ⟨xxM12, pM12⟩ := pM12
    have muM12 := xxM12.at_ hz hf.1 hbad (fun z => by omega)
    have CM12_108 : M12 108 = M 108 := fM120 108 (by decide)
    have CM12_109 : M12 109 = M 109 := fM120 109 (by decide)
    have CM12_110 : M12 110 = M 110 := fM120 110 (by decide)
    have CM12_111 : M12 111 = M 111 := fM120 111 (by decide)
    obtain ⟨aM12p, bM12p, cM12p, kM12p⟩ := pM12
    have tkM12 : TK M12 := kM12p
    clear kM12p
    have tbM12 := tkM12.b
    have siM12 : SI M12 F0 := SI.nx hs0 CM12_110 CM12_111 (by omega) (by omega) (by omega) (by omega)
    have hiM12 := HI.nx hh0 CM12_108 CM12_109 CM12_110 CM12_111 (by omega) (by omega)
    have sqM12 : SQ M12 t := SQ.nx hq0 CM12_110 (by omega) (by omega)
    have loM12 : LO M M12 F0 := LO.tr (LO.rf _ _) (LO.eq CM12_108 CM12_109)
    refine g_aload_n (pc' := 19) 0 dX10_openBracket_18 rfl rfl ?_
    refine g_getI (pc' := 22) dX10_openBracket_19 rfl f_X10_154 rfl rfl (fun v13 ev13 rv13 => ?_)
    refine g_if_ne (pc' := 25) (tgt := 41) rv13 dX10_openBracket_22 rfl rfl (fun c14 => ?_) (fun c14 => ?_)
    · refine g_vreturn dX10_openBracket_41 ?_
      exact ⟨iM12, fM12, q97_12_M12, q97_19_M12, q97_10_M12, q97_44_M12, q97_33_M12, Or.inr ⟨by omega, by omega, by omega⟩, (fun z => absurd z (by omega)), PS.bad siM12 (by omega), LO.eq CM12_108 CM12_109, tkM12, by omega, by omega⟩
    · refine g_aload_n (pc' := 26) 0 dX10_openBracket_25 rfl rfl ?_
      refine g_dup (pc' := 27) dX10_openBracket_26 rfl rfl ?_
      refine g_getI (pc' := 30) dX10_openBracket_27 rfl f_X10_212 rfl rfl (fun v15 ev15 rv15 => ?_)
      refine g_iconst (pc' := 31) dX10_openBracket_30 rfl ?_
      refine g_iadd (pc' := 32) dX10_openBracket_31 rfl ?_
      refine g_putI (pc' := 35) dX10_openBracket_32 rfl p_X10_212 rfl rfl ⟨by omega, by omega⟩ (fun M16 hM16 => ?_)
      have iM16 : IM M16 := IM.wr iM12 hM16 (by unfold okv; first | decide | omega)
      have fM16 : Fr (fun c => c = 97 ∨ c = 110 ∨ c = 111) M M16 := Fr.wr fM12 hM16 (by first | decide | omega | (dsimp only; omega))
      have q97_12_M16 : (M16 97 12 = M 97 12) := (show M16 97 12 = M12 97 12 by rw [hM16]; exact mu_ne _ _ (by first | decide | omega)).trans q97_12_M12
      have q97_19_M16 : (M16 97 19 = M 97 19) := (show M16 97 19 = M12 97 19 by rw [hM16]; exact mu_ne _ _ (by first | decide | omega)).trans q97_19_M12
      have q97_10_M16 : (M16 97 10 = M 97 10) := (show M16 97 10 = M12 97 10 by rw [hM16]; exact mu_ne _ _ (by first | decide | omega)).trans q97_10_M12
      have q97_44_M16 : (M16 97 44 = M 97 44) := (show M16 97 44 = M12 97 44 by rw [hM16]; exact mu_ne _ _ (by first | decide | omega)).trans q97_44_M12
      have q97_33_M16 : (M16 97 33 = M 97 33) := (show M16 97 33 = M12 97 33 by rw [hM16]; exact mu_ne _ _ (by first | decide | omega)).trans q97_33_M12
      have wM16_97_12 : M16 97 12 = M12 97 12 := by rw [hM16]; exact mu_ne _ _ (by first | decide | omega)
      have wM16_97_13 : M16 97 13 = M12 97 13 := by rw [hM16]; exact mu_ne _ _ (by first | decide | omega)
      have wM16_97_14 : M16 97 14 = M12 97 14 := by rw [hM16]; exact mu_ne _ _ (by first | decide | omega)
      have wM16_97_15 : M16 97 15 = M12 97 15 := by rw [hM16]; exact mu_ne _ _ (by first | decide | omega)
      have wM16_97_16 : M16 97 16 = M12 97 16 := by rw [hM16]; exact mu_ne _ _ (by first | decide | omega)
      have wM16_97_17 : M16 97 17 = M12 97 17 := by rw [hM16]; exact mu_ne _ _ (by first | decide | omega)
      have wM16_97_18 : M16 97 18 = M12 97 18 := by rw [hM16]; exact mu_ne _ _ (by first | decide | omega)
      have wM16_97_21 : M16 97 21 = M12 97 21 := by rw [hM16]; exact mu_ne _ _ (by first | decide | omega)
      have wM16_97_24 : M16 97 24 = M12 97 24 := by rw [hM16]; exact mu_ne _ _ (by first | decide | omega)
      have wM16_97_27 : M16 97 27 = M12 97 27 := by rw [hM16]; exact mu_ne _ _ (by first | decide | omega)
      have xM16_97_28 : M16 97 28 = v15 + 1 := by rw [hM16]; exact mu_at _ _ _ _
      have CM16_108 : M16 108 = M 108 := by rw [hM16, mu_cell _ _ (by decide), CM12_108]
      have CM16_109 : M16 109 = M 109 := by rw [hM16, mu_cell _ _ (by decide), CM12_109]
      have CM16_110 : M16 110 = M 110 := by rw [hM16, mu_cell _ _ (by decide), CM12_110]
      have CM16_111 : M16 111 = M 111 := by rw [hM16, mu_cell _ _ (by decide), CM12_111]
      have tkM16 : TK M16 := TK.eq tkM12 (show M16 97 12 = M12 97 12 by rw [hM16]; exact mu_ne _ _ (by first | decide | omega)) (show M16 97 13 = M12 97 13 by rw [hM16]; exact mu_ne _ _ (by first | decide | omega)) (show M16 97 14 = M12 97 14 by rw [hM16]; exact mu_ne _ _ (by first | decide | omega)) (show M16 97 15 = M12 97 15 by rw [hM16]; exact mu_ne _ _ (by first | decide | omega)) (show M16 97 16 = M12 97 16 by rw [hM16]; exact mu_ne _ _ (by first | decide | omega))
      have tzM16 : TZM M16 K W S E m := TZM.eq tzM12 (by rw [hM16]; exact mu_cell _ _ (by decide)) (show M16 97 12 = M12 97 12 by rw [hM16]; exact mu_ne _ _ (by first | decide | omega))
      refine g_aload_n (pc' := 36) 0 dX10_openBracket_35 rfl rfl ?_
      refine g_iload_n (pc' := 37) 1 dX10_openBracket_36 rfl rfl ?_
      refine g_iconst (pc' := 38) dX10_openBracket_37 rfl ?_
      refine g_callVv (pc' := 41) (As := [vi a, vi 0]) (b := 97) (S := []) dX10_openBracket_38 rfl m_X10_215 w_X10_push (c_X10_push_x X M16 iM16 a ha 0 (by decide) (by omega)) rfl ⟨_, _, _, rfl, rfl, rfl⟩ (by decide) (by decide) rfl (Nat.le_of_ble_eq_true rfl) (fun M18 q17 => ?_)
      obtain ⟨iM18, fM180, eM18_97_12, eM18_97_19, eM18_97_21, eM18_97_24, eM18_97_28, eM18_97_10, eM18_97_44, eM18_97_33, eM18_97_13, eM18_97_14, eM18_97_15, eM18_97_16, eM18_97_18, eM18_97_17, pM18⟩ := q17
      have fM18 : Fr (fun c => c = 97 ∨ c = 110 ∨ c = 111) M M18 := Fr.tr fM16 fM180 (fun _ z => z)
      have q97_12_M18 : (M18 97 12 = M 97 12) := eM18_97_12.trans q97_12_M16
      have q97_19_M18 : (M18 97 19 = M 97 19) := eM18_97_19.trans q97_19_M16
      have q97_10_M18 : (M18 97 10 = M 97 10) := eM18_97_10.trans q97_10_M16
      have q97_44_M18 : (M18 97 44 = M 97 44) := eM18_97_44.trans q97_44_M16
      have q97_33_M18 : (M18 97 33 = M 97 33) := eM18_97_33.trans q97_33_M16
      have wM18_97_12 : M18 97 12 = M16 97 12 := eM18_97_12
      have wM18_97_13 : M18 97 13 = M16 97 13 := eM18_97_13
      have wM18_97_14 : M18 97 14 = M16 97 14 := eM18_97_14
      have wM18_97_15 : M18 97 15 = M16 97 15 := eM18_97_15
      have wM18_97_16 : M18 97 16 = M16 97 16 := eM18_97_16
      have wM18_97_17 : M18 97 17 = M16 97 17 := eM18_97_17
      have wM18_97_18 : M18 97 18 = M16 97 18 := eM18_97_18
      have wM18_97_21 : M18 97 21 = M16 97 21 := eM18_97_21
      have wM18_97_24 : M18 97 24 = M16 97 24 := eM18_97_24
      have wM18_97_28 : M18 97 28 = M16 97 28 := eM18_97_28
      have xM18_97_28 : M18 97 28 = v15 + 1 := eM18_97_28.trans xM16_97_28
      have tzM18 : TZM M18 K W S E m := TZM.eq tzM16 (fM180 106 (by decide)) eM18_97_12
      have CM18_108 : M18 108 = M 108 := (fM180 108 (by decide)).trans CM16_108
      have CM18_109 : M18 109 = M 109 := (fM180 109 (by decide)).trans CM16_109
      have CM18_110 : M18 110 = ms (M 110) (M 97 27).toNat a := by rw [pM18.1, CM16_110, show M16 97 27 = M 97 27 by omega]
      have CM18_111 : M18 111 = ms (M 111) (M 97 27).toNat 0 := by rw [pM18.2.1, CM16_111, show M16 97 27 = M 97 27 by omega]
      have tkM18 : TK M18 := TK.eq tkM16 eM18_97_12 eM18_97_13 eM18_97_14 eM18_97_15 eM18_97_16
      have ppM18 := pM18.2.2
      clear pM18
      refine g_vreturn dX10_openBracket_41 ?_
      exact ⟨iM18, fM18, q97_12_M18, q97_19_M18, q97_10_M18, q97_44_M18, q97_33_M18, Or.inl ⟨by omega, by omega, (AT.eq (muM12.resolve_right (fun z => z.1 (by omega))).2.2 (by omega) (by omega) (by omega) (by omega) (by omega)), by omega, by rw [opn_b (by omega)]; omega, PIL.push hf.2.2.2 CM18_110 (by omega)⟩, (fun _ => RLq.push hrq hf.2.2.2 (by omega) CM18_108 CM18_109 CM18_111 (by omega) (hat.elim (fun z => Or.inr ⟨Or.inr z.1, hnt z.1⟩) Or.inl)), PS.mk_ (q := 0) (SI.push hs0 (by omega) (by omega) CM18_110 CM18_111 (by omega) (by omega) (by omega) (by omega)) (HI.push hs0 hh0 (by omega) CM18_108 CM18_109 CM18_110 CM18_111 (by omega) (by omega)) (SQ.push hq0 CM18_110 (by omega) (by omega) (by omega) (by omega)) (by omega), LO.eq CM18_108 CM18_109, tkM18, by omega, by omega⟩
set_option maxHeartbeats 4000000 in
set_option maxRecDepth 100000 in
theorem c_X10_leaf_z (X : Cx) (M : Mm) (hi : IM M) (is : Int) (his : inI is) (op : Int) (hop : inI op) (ag : Int) (hag : inI ag) (F0 : Int) (hs0 : SI M F0) (hh0 : HI M F0 0) (htk : TK M) (hop5 : 0 ≤ op ∧ op ≤ 4) (hag2 : op ≠ 0 → 0 ≤ ag ∧ ag ≤ 23) (hiso : is ≠ 0 → M 97 15 ≠ 0) (hbad : M 97 18 = 0) (K W S E : Nat → Int) (m i : Nat) (lv : Int) (ops : List Int) (vs : List Mng) (hz : TZM M K W S E m) (hf : RFo K W S E m M i lv ops) (hrq : RLq M F0 ops vs) : Con X 3 yX10_leaf cX10_leaf 4 none [vr X 97, vi is, vi op, vi ag] M (Qv (fun M1 => IM M1 ∧ Fr (fun c => c = 97 ∨ c = 108 ∨ c = 109) M M1 ∧ M1 97 12 = M 97 12 ∧ M1 97 19 = M 97 19 ∧ M1 97 10 = M 97 10 ∧ M1 97 44 = M 97 44 ∧ M1 97 33 = M 97 33 ∧ M1 97 27 = M 97 27 ∧ M1 97 28 = M 97 28 ∧ ((LFQ K W S E m i lv ops is M1) ∧ (M1 97 18 = 0 → LO M M1 (M 97 21) ∧ M1 111 = M 111 ∧ M1 109 (M 97 21).toNat = ag) ∧ SI M1 F0 ∧ LF M1 F0 (M 97 21) op ∧ LO M M1 F0 ∧ TK M1 ∧ M 97 13 ≤ M1 97 13 ∧ (M1 97 18 = 0 → M 97 13 < M1 97 13 ∧ M1 97 21 = M 97 21 + 1)))) := by
  refine Con.ofG rfl (Nat.le_of_ble_eq_true rfl) ?_
  show G X 3 RX10 cX10_leaf 4 none (Qv (fun M1 => IM M1 ∧ Fr (fun c => c = 97 ∨ c = 108 ∨ c = 109) M M1 ∧ M1 97 12 = M 97 12 ∧ M1 97 19 = M 97 19 ∧ M1 97 10 = M 97 10 ∧ M1 97 44 = M 97 44 ∧ M1 97 33 = M 97 33 ∧ M1 97 27 = M 97 27 ∧ M1 97 28 = M 97 28 ∧ ((LFQ K W S E m i lv ops is M1) ∧ (M1 97 18 = 0 → LO M M1 (M 97 21) ∧ M1 111 = M 111 ∧ M1 109 (M 97 21).toNat = ag) ∧ SI M1 F0 ∧ LF M1 F0 (M 97 21) op ∧ LO M M1 F0 ∧ TK M1 ∧ M 97 13 ≤ M1 97 13 ∧ (M1 97 18 = 0 → M 97 13 < M1 97 13 ∧ M1 97 21 = M 97 21 + 1)))) 0 [(0, vr X 97), (1, vi is), (2, vi op), (3, vi ag)] [] M
  have p12 := hi.2.2.2.1
  have sa0 := hs0.ar
  have tb0 := htk.b
  have lt0 := htk.lt
  have hf2 := hf.2.1
  have hf3 := hf.2.2.1
  have aw0 := hf.1.w hz
  have on0 := opn_nn ops
  refine g_aload_n (pc' := 1) 0 dX10_leaf_0 rfl rfl ?_
  refine g_iload_n (pc' := 2) 1 dX10_leaf_1 rfl rfl ?_
  refine g_if_eq (pc' := 5) (tgt := 18) his dX10_leaf_2 rfl rfl (fun c1 => ?_) (fun c1 => ?_)
  · refine g_iconst (pc' := 19) dX10_leaf_18 rfl ?_
    refine g_callVv (pc' := 22) (As := [vi 0]) (b := 97) (S := []) dX10_leaf_19 rfl m_X10_187 w_X10_must (c_X10_must_x X M hi 0 (by decide) htk) rfl ⟨_, _, _, rfl, rfl, rfl⟩ (by decide) (by decide) rfl (Nat.le_of_ble_eq_true rfl) (fun M3 q2 => ?_)
    obtain ⟨iM3, fM30, eM3_97_12, eM3_97_19, eM3_97_21, eM3_97_24, eM3_97_27, eM3_97_28, eM3_97_10, eM3_97_44, eM3_97_33, pM3⟩ := q2
    have fM3 : Fr (fun c => c = 97 ∨ c = 108 ∨ c = 109) M M3 := Fr.tr Fr.rf fM30 fi_44
    have q97_12_M3 : (M3 97 12 = M 97 12) := eM3_97_12
    have q97_19_M3 : (M3 97 19 = M 97 19) := eM3_97_19
    have q97_10_M3 : (M3 97 10 = M 97 10) := eM3_97_10
    have q97_44_M3 : (M3 97 44 = M 97 44) := eM3_97_44
    have q97_33_M3 : (M3 97 33 = M 97 33) := eM3_97_33
    have q97_27_M3 : (M3 97 27 = M 97 27) := eM3_97_27
    have q97_28_M3 : (M3 97 28 = M 97 28) := eM3_97_28
    have wM3_97_12 : M3 97 12 = M 97 12 := eM3_97_12
    have wM3_97_21 : M3 97 21 = M 97 21 := eM3_97_21
    have wM3_97_24 : M3 97 24 = M 97 24 := eM3_97_24
    have wM3_97_27 : M3 97 27 = M 97 27 := eM3_97_27
    have wM3_97_28 : M3 97 28 = M 97 28 := eM3_97_28
    have tzM3 : TZM M3 K W S E m := TZM.eq hz (fM30 106 (by decide)) eM3_97_12
    obtain ⟨xxM3, pM3⟩ := pM3
    have muM3 := xxM3.at_ hz hf.1 hbad (fun z => by omega)
    have CM3_108 : M3 108 = M 108 := fM30 108 (by decide)
    have CM3_109 : M3 109 = M 109 := fM30 109 (by decide)
    have CM3_110 : M3 110 = M 110 := fM30 110 (by decide)
    have CM3_111 : M3 111 = M 111 := fM30 111 (by decide)
    obtain ⟨aM3p, bM3p, cM3p, kM3p⟩ := pM3
    have tkM3 : TK M3 := kM3p
    clear kM3p
    have tbM3 := tkM3.b
    have siM3 : SI M3 F0 := SI.nx hs0 CM3_110 CM3_111 (by omega) (by omega) (by omega) (by omega)
    have hiM3 := HI.nx hh0 CM3_108 CM3_109 CM3_110 CM3_111 (by omega) (by omega)
    have loM3 : LO M M3 F0 := LO.tr (LO.rf _ _) (LO.eq CM3_108 CM3_109)
    refine g_aload_n (pc' := 23) 0 dX10_leaf_22 rfl rfl ?_
    refine g_getI (pc' := 26) dX10_leaf_23 rfl f_X10_154 rfl rfl (fun v4 ev4 rv4 => ?_)
    refine g_if_ne (pc' := 29) (tgt := 45) rv4 dX10_leaf_26 rfl rfl (fun c5 => ?_) (fun c5 => ?_)
    · refine g_vreturn dX10_leaf_45 ?_
      exact ⟨iM3, fM3, q97_12_M3, q97_19_M3, q97_10_M3, q97_44_M3, q97_33_M3, q97_27_M3, q97_28_M3, Or.inr ⟨by omega, by omega, by omega⟩, (fun z => absurd z (by omega)), siM3, LF.bad (by omega), LO.eq CM3_108 CM3_109, tkM3, by omega, by omega⟩
    · refine g_aload_n (pc' := 30) 0 dX10_leaf_29 rfl rfl ?_
      refine g_iload_n (pc' := 31) 2 dX10_leaf_30 rfl rfl ?_
      refine g_iload_n (pc' := 32) 3 dX10_leaf_31 rfl rfl ?_
      refine g_callVv (pc' := 35) (As := [vi op, vi ag]) (b := 97) (S := []) dX10_leaf_32 rfl m_X10_200 w_X10_emit (c_X10_emit_x X M3 iM3 op hop ag hag (by omega)) rfl ⟨_, _, _, rfl, rfl, rfl⟩ (by decide) (by decide) rfl (Nat.le_of_ble_eq_true rfl) (fun M7 q6 => ?_)
      obtain ⟨iM7, fM70, eM7_97_12, eM7_97_19, eM7_97_24, eM7_97_27, eM7_97_28, eM7_97_10, eM7_97_44, eM7_97_33, eM7_97_13, eM7_97_14, eM7_97_15, eM7_97_16, eM7_97_18, eM7_97_17, pM7⟩ := q6
      have fM7 : Fr (fun c => c = 97 ∨ c = 108 ∨ c = 109) M M7 := Fr.tr fM3 fM70 (fun _ z => z)
      have q97_12_M7 : (M7 97 12 = M 97 12) := eM7_97_12.trans q97_12_M3
      have q97_19_M7 : (M7 97 19 = M 97 19) := eM7_97_19.trans q97_19_M3
      have q97_10_M7 : (M7 97 10 = M 97 10) := eM7_97_10.trans q97_10_M3
      have q97_44_M7 : (M7 97 44 = M 97 44) := eM7_97_44.trans q97_44_M3
      have q97_33_M7 : (M7 97 33 = M 97 33) := eM7_97_33.trans q97_33_M3
      have q97_27_M7 : (M7 97 27 = M 97 27) := eM7_97_27.trans q97_27_M3
      have q97_28_M7 : (M7 97 28 = M 97 28) := eM7_97_28.trans q97_28_M3
      have wM7_97_12 : M7 97 12 = M3 97 12 := eM7_97_12
      have wM7_97_13 : M7 97 13 = M3 97 13 := eM7_97_13
      have wM7_97_14 : M7 97 14 = M3 97 14 := eM7_97_14
      have wM7_97_15 : M7 97 15 = M3 97 15 := eM7_97_15
      have wM7_97_16 : M7 97 16 = M3 97 16 := eM7_97_16
      have wM7_97_17 : M7 97 17 = M3 97 17 := eM7_97_17
      have wM7_97_18 : M7 97 18 = M3 97 18 := eM7_97_18
      have wM7_97_24 : M7 97 24 = M3 97 24 := eM7_97_24
      have wM7_97_27 : M7 97 27 = M3 97 27 := eM7_97_27
      have wM7_97_28 : M7 97 28 = M3 97 28 := eM7_97_28
      have tzM7 : TZM M7 K W S E m := TZM.eq tzM3 (fM70 106 (by decide)) eM7_97_12
      have CM7_108 : M7 108 = ms (M 108) (M 97 21).toNat op := by rw [pM7.1, CM3_108, show M3 97 21 = M 97 21 by omega]
      have CM7_109 : M7 109 = ms (M 109) (M 97 21).toNat ag := by rw [pM7.2.1, CM3_109, show M3 97 21 = M 97 21 by omega]
      have CM7_110 : M7 110 = M 110 := (fM70 110 (by decide)).trans CM3_110
      have CM7_111 : M7 111 = M 111 := (fM70 111 (by decide)).trans CM3_111
      have tkM7 : TK M7 := TK.eq tkM3 eM7_97_12 eM7_97_13 eM7_97_14 eM7_97_15 eM7_97_16
      have ppM7 := pM7.2.2
      clear pM7
      refine g_aload_n (pc' := 36) 0 dX10_leaf_35 rfl rfl ?_
      refine g_dup (pc' := 37) dX10_leaf_36 rfl rfl ?_
      refine g_getI (pc' := 40) dX10_leaf_37 rfl f_X10_218 rfl rfl (fun v8 ev8 rv8 => ?_)
      refine g_iconst (pc' := 41) dX10_leaf_40 rfl ?_
      refine g_iadd (pc' := 42) dX10_leaf_41 rfl ?_
      refine g_putI (pc' := 45) dX10_leaf_42 rfl p_X10_218 rfl rfl ⟨by omega, by omega⟩ (fun M9 hM9 => ?_)
      have iM9 : IM M9 := IM.wr iM7 hM9 (by unfold okv; first | decide | omega)
      have fM9 : Fr (fun c => c = 97 ∨ c = 108 ∨ c = 109) M M9 := Fr.wr fM7 hM9 (by first | decide | omega | (dsimp only; omega))
      have q97_12_M9 : (M9 97 12 = M 97 12) := (show M9 97 12 = M7 97 12 by rw [hM9]; exact mu_ne _ _ (by first | decide | omega)).trans q97_12_M7
      have q97_19_M9 : (M9 97 19 = M 97 19) := (show M9 97 19 = M7 97 19 by rw [hM9]; exact mu_ne _ _ (by first | decide | omega)).trans q97_19_M7
      have q97_10_M9 : (M9 97 10 = M 97 10) := (show M9 97 10 = M7 97 10 by rw [hM9]; exact mu_ne _ _ (by first | decide | omega)).trans q97_10_M7
      have q97_44_M9 : (M9 97 44 = M 97 44) := (show M9 97 44 = M7 97 44 by rw [hM9]; exact mu_ne _ _ (by first | decide | omega)).trans q97_44_M7
      have q97_33_M9 : (M9 97 33 = M 97 33) := (show M9 97 33 = M7 97 33 by rw [hM9]; exact mu_ne _ _ (by first | decide | omega)).trans q97_33_M7
      have q97_27_M9 : (M9 97 27 = M 97 27) := (show M9 97 27 = M7 97 27 by rw [hM9]; exact mu_ne _ _ (by first | decide | omega)).trans q97_27_M7
      have q97_28_M9 : (M9 97 28 = M 97 28) := (show M9 97 28 = M7 97 28 by rw [hM9]; exact mu_ne _ _ (by first | decide | omega)).trans q97_28_M7
      have wM9_97_12 : M9 97 12 = M7 97 12 := by rw [hM9]; exact mu_ne _ _ (by first | decide | omega)
      have wM9_97_13 : M9 97 13 = M7 97 13 := by rw [hM9]; exact mu_ne _ _ (by first | decide | omega)
      have wM9_97_14 : M9 97 14 = M7 97 14 := by rw [hM9]; exact mu_ne _ _ (by first | decide | omega)
      have wM9_97_15 : M9 97 15 = M7 97 15 := by rw [hM9]; exact mu_ne _ _ (by first | decide | omega)
      have wM9_97_16 : M9 97 16 = M7 97 16 := by rw [hM9]; exact mu_ne _ _ (by first | decide | omega)
      have wM9_97_17 : M9 97 17 = M7 97 17 := by rw [hM9]; exact mu_ne _ _ (by first | decide | omega)
      have wM9_97_18 : M9 97 18 = M7 97 18 := by rw [hM9]; exact mu_ne _ _ (by first | decide | omega)
      have wM9_97_21 : M9 97 21 = M7 97 21 := by rw [hM9]; exact mu_ne _ _ (by first | decide | omega)
      have wM9_97_27 : M9 97 27 = M7 97 27 := by rw [hM9]; exact mu_ne _ _ (by first | decide | omega)
      have wM9_97_28 : M9 97 28 = M7 97 28 := by rw [hM9]; exact mu_ne _ _ (by first | decide | omega)
      have xM9_97_24 : M9 97 24 = v8 + 1 := by rw [hM9]; exact mu_at _ _ _ _
      have CM9_108 : M9 108 = ms (M 108) (M 97 21).toNat op := by rw [hM9, mu_cell _ _ (by decide), CM7_108]
      have CM9_109 : M9 109 = ms (M 109) (M 97 21).toNat ag := by rw [hM9, mu_cell _ _ (by decide), CM7_109]
      have CM9_110 : M9 110 = M 110 := by rw [hM9, mu_cell _ _ (by decide), CM7_110]
      have CM9_111 : M9 111 = M 111 := by rw [hM9, mu_cell _ _ (by decide), CM7_111]
      have tkM9 : TK M9 := TK.eq tkM7 (show M9 97 12 = M7 97 12 by rw [hM9]; exact mu_ne _ _ (by first | decide | omega)) (show M9 97 13 = M7 97 13 by rw [hM9]; exact mu_ne _ _ (by first | decide | omega)) (show M9 97 14 = M7 97 14 by rw [hM9]; exact mu_ne _ _ (by first | decide | omega)) (show M9 97 15 = M7 97 15 by rw [hM9]; exact mu_ne _ _ (by first | decide | omega)) (show M9 97 16 = M7 97 16 by rw [hM9]; exact mu_ne _ _ (by first | decide | omega))
      have tzM9 : TZM M9 K W S E m := TZM.eq tzM7 (by rw [hM9]; exact mu_cell _ _ (by decide)) (show M9 97 12 = M7 97 12 by rw [hM9]; exact mu_ne _ _ (by first | decide | omega))
      refine g_vreturn dX10_leaf_45 ?_
      exact ⟨iM9, fM9, q97_12_M9, q97_19_M9, q97_10_M9, q97_44_M9, q97_33_M9, q97_27_M9, q97_28_M9, Or.inl ⟨by omega, by omega, by omega, (AT.eq (muM3.resolve_right (fun z => z.1 (by omega))).2.2 (by omega) (by omega) (by omega) (by omega) (by omega)), by omega, by omega, (by rw [CM9_110, show M9 97 27 = M 97 27 by omega]; exact hf.2.2.2)⟩, (fun _ => ⟨LO.em CM9_108 CM9_109 (by omega) (by omega), CM9_111, by rw [CM9_109, ms_at]⟩), SI.leaf hs0 CM9_110 CM9_111 (by omega) (by omega) (by omega) (by omega), (fun _ => ⟨HI.leaf hs0 hh0 hop5 hag2 CM9_108 CM9_109 CM9_110 CM9_111 (by omega) (by omega), by rw [CM9_108, ms_at]⟩), LO.em CM9_108 CM9_109 (by omega) (by omega), tkM9, by omega, by omega⟩
  · refine g_aload_n (pc' := 6) 0 dX10_leaf_5 rfl rfl ?_
    refine g_getI (pc' := 9) dX10_leaf_6 rfl f_X10_218 rfl rfl (fun v10 ev10 rv10 => ?_)
    refine g_bipush (pc' := 11) (v := 50) dX10_leaf_9 rfl (by decide) ?_
    refine g_ic_ge (pc' := 14) (tgt := 18) rv10 (by decide) dX10_leaf_11 rfl rfl (fun c11 => ?_) (fun c11 => ?_)
    · refine g_iconst (pc' := 19) dX10_leaf_18 rfl ?_
      refine g_callVv (pc' := 22) (As := [vi 0]) (b := 97) (S := []) dX10_leaf_19 rfl m_X10_187 w_X10_must (c_X10_must_x X M hi 0 (by decide) htk) rfl ⟨_, _, _, rfl, rfl, rfl⟩ (by decide) (by decide) rfl (Nat.le_of_ble_eq_true rfl) (fun M13 q12 => ?_)
      obtain ⟨iM13, fM130, eM13_97_12, eM13_97_19, eM13_97_21, eM13_97_24, eM13_97_27, eM13_97_28, eM13_97_10, eM13_97_44, eM13_97_33, pM13⟩ := q12
      have fM13 : Fr (fun c => c = 97 ∨ c = 108 ∨ c = 109) M M13 := Fr.tr Fr.rf fM130 fi_44
      have q97_12_M13 : (M13 97 12 = M 97 12) := eM13_97_12
      have q97_19_M13 : (M13 97 19 = M 97 19) := eM13_97_19
      have q97_10_M13 : (M13 97 10 = M 97 10) := eM13_97_10
      have q97_44_M13 : (M13 97 44 = M 97 44) := eM13_97_44
      have q97_33_M13 : (M13 97 33 = M 97 33) := eM13_97_33
      have q97_27_M13 : (M13 97 27 = M 97 27) := eM13_97_27
      have q97_28_M13 : (M13 97 28 = M 97 28) := eM13_97_28
      have wM13_97_12 : M13 97 12 = M 97 12 := eM13_97_12
      have wM13_97_21 : M13 97 21 = M 97 21 := eM13_97_21
      have wM13_97_24 : M13 97 24 = M 97 24 := eM13_97_24
      have wM13_97_27 : M13 97 27 = M 97 27 := eM13_97_27
      have wM13_97_28 : M13 97 28 = M 97 28 := eM13_97_28
      have tzM13 : TZM M13 K W S E m := TZM.eq hz (fM130 106 (by decide)) eM13_97_12
      obtain ⟨xxM13, pM13⟩ := pM13
      have muM13 := xxM13.at_ hz hf.1 hbad (fun z => by omega)
      have CM13_108 : M13 108 = M 108 := fM130 108 (by decide)
      have CM13_109 : M13 109 = M 109 := fM130 109 (by decide)
      have CM13_110 : M13 110 = M 110 := fM130 110 (by decide)
      have CM13_111 : M13 111 = M 111 := fM130 111 (by decide)
      obtain ⟨aM13p, bM13p, cM13p, kM13p⟩ := pM13
      have tkM13 : TK M13 := kM13p
      clear kM13p
      have tbM13 := tkM13.b
      have siM13 : SI M13 F0 := SI.nx hs0 CM13_110 CM13_111 (by omega) (by omega) (by omega) (by omega)
      have hiM13 := HI.nx hh0 CM13_108 CM13_109 CM13_110 CM13_111 (by omega) (by omega)
      have loM13 : LO M M13 F0 := LO.tr (LO.rf _ _) (LO.eq CM13_108 CM13_109)
      refine g_aload_n (pc' := 23) 0 dX10_leaf_22 rfl rfl ?_
      refine g_getI (pc' := 26) dX10_leaf_23 rfl f_X10_154 rfl rfl (fun v14 ev14 rv14 => ?_)
      refine g_if_ne (pc' := 29) (tgt := 45) rv14 dX10_leaf_26 rfl rfl (fun c15 => ?_) (fun c15 => ?_)
      · refine g_vreturn dX10_leaf_45 ?_
        exact ⟨iM13, fM13, q97_12_M13, q97_19_M13, q97_10_M13, q97_44_M13, q97_33_M13, q97_27_M13, q97_28_M13, Or.inr ⟨by omega, by omega, by omega⟩, (fun z => absurd z (by omega)), siM13, LF.bad (by omega), LO.eq CM13_108 CM13_109, tkM13, by omega, by omega⟩
      · refine g_aload_n (pc' := 30) 0 dX10_leaf_29 rfl rfl ?_
        refine g_iload_n (pc' := 31) 2 dX10_leaf_30 rfl rfl ?_
        refine g_iload_n (pc' := 32) 3 dX10_leaf_31 rfl rfl ?_
        refine g_callVv (pc' := 35) (As := [vi op, vi ag]) (b := 97) (S := []) dX10_leaf_32 rfl m_X10_200 w_X10_emit (c_X10_emit_x X M13 iM13 op hop ag hag (by omega)) rfl ⟨_, _, _, rfl, rfl, rfl⟩ (by decide) (by decide) rfl (Nat.le_of_ble_eq_true rfl) (fun M17 q16 => ?_)
        obtain ⟨iM17, fM170, eM17_97_12, eM17_97_19, eM17_97_24, eM17_97_27, eM17_97_28, eM17_97_10, eM17_97_44, eM17_97_33, eM17_97_13, eM17_97_14, eM17_97_15, eM17_97_16, eM17_97_18, eM17_97_17, pM17⟩ := q16
        have fM17 : Fr (fun c => c = 97 ∨ c = 108 ∨ c = 109) M M17 := Fr.tr fM13 fM170 (fun _ z => z)
        have q97_12_M17 : (M17 97 12 = M 97 12) := eM17_97_12.trans q97_12_M13
        have q97_19_M17 : (M17 97 19 = M 97 19) := eM17_97_19.trans q97_19_M13
        have q97_10_M17 : (M17 97 10 = M 97 10) := eM17_97_10.trans q97_10_M13
        have q97_44_M17 : (M17 97 44 = M 97 44) := eM17_97_44.trans q97_44_M13
        have q97_33_M17 : (M17 97 33 = M 97 33) := eM17_97_33.trans q97_33_M13
        have q97_27_M17 : (M17 97 27 = M 97 27) := eM17_97_27.trans q97_27_M13
        have q97_28_M17 : (M17 97 28 = M 97 28) := eM17_97_28.trans q97_28_M13
        have wM17_97_12 : M17 97 12 = M13 97 12 := eM17_97_12
        have wM17_97_13 : M17 97 13 = M13 97 13 := eM17_97_13
        have wM17_97_14 : M17 97 14 = M13 97 14 := eM17_97_14
        have wM17_97_15 : M17 97 15 = M13 97 15 := eM17_97_15
        have wM17_97_16 : M17 97 16 = M13 97 16 := eM17_97_16
        have wM17_97_17 : M17 97 17 = M13 97 17 := eM17_97_17
        have wM17_97_18 : M17 97 18 = M13 97 18 := eM17_97_18
        have wM17_97_24 : M17 97 24 = M13 97 24 := eM17_97_24
        have wM17_97_27 : M17 97 27 = M13 97 27 := eM17_97_27
        have wM17_97_28 : M17 97 28 = M13 97 28 := eM17_97_28
        have tzM17 : TZM M17 K W S E m := TZM.eq tzM13 (fM170 106 (by decide)) eM17_97_12
        have CM17_108 : M17 108 = ms (M 108) (M 97 21).toNat op := by rw [pM17.1, CM13_108, show M13 97 21 = M 97 21 by omega]
        have CM17_109 : M17 109 = ms (M 109) (M 97 21).toNat ag := by rw [pM17.2.1, CM13_109, show M13 97 21 = M 97 21 by omega]
        have CM17_110 : M17 110 = M 110 := (fM170 110 (by decide)).trans CM13_110
        have CM17_111 : M17 111 = M 111 := (fM170 111 (by decide)).trans CM13_111
        have tkM17 : TK M17 := TK.eq tkM13 eM17_97_12 eM17_97_13 eM17_97_14 eM17_97_15 eM17_97_16
        have ppM17 := pM17.2.2
        clear pM17
        refine g_aload_n (pc' := 36) 0 dX10_leaf_35 rfl rfl ?_
        refine g_dup (pc' := 37) dX10_leaf_36 rfl rfl ?_
        refine g_getI (pc' := 40) dX10_leaf_37 rfl f_X10_218 rfl rfl (fun v18 ev18 rv18 => ?_)
        refine g_iconst (pc' := 41) dX10_leaf_40 rfl ?_
        refine g_iadd (pc' := 42) dX10_leaf_41 rfl ?_
        refine g_putI (pc' := 45) dX10_leaf_42 rfl p_X10_218 rfl rfl ⟨by omega, by omega⟩ (fun M19 hM19 => ?_)
        have iM19 : IM M19 := IM.wr iM17 hM19 (by unfold okv; first | decide | omega)
        have fM19 : Fr (fun c => c = 97 ∨ c = 108 ∨ c = 109) M M19 := Fr.wr fM17 hM19 (by first | decide | omega | (dsimp only; omega))
        have q97_12_M19 : (M19 97 12 = M 97 12) := (show M19 97 12 = M17 97 12 by rw [hM19]; exact mu_ne _ _ (by first | decide | omega)).trans q97_12_M17
        have q97_19_M19 : (M19 97 19 = M 97 19) := (show M19 97 19 = M17 97 19 by rw [hM19]; exact mu_ne _ _ (by first | decide | omega)).trans q97_19_M17
        have q97_10_M19 : (M19 97 10 = M 97 10) := (show M19 97 10 = M17 97 10 by rw [hM19]; exact mu_ne _ _ (by first | decide | omega)).trans q97_10_M17
        have q97_44_M19 : (M19 97 44 = M 97 44) := (show M19 97 44 = M17 97 44 by rw [hM19]; exact mu_ne _ _ (by first | decide | omega)).trans q97_44_M17
        have q97_33_M19 : (M19 97 33 = M 97 33) := (show M19 97 33 = M17 97 33 by rw [hM19]; exact mu_ne _ _ (by first | decide | omega)).trans q97_33_M17
        have q97_27_M19 : (M19 97 27 = M 97 27) := (show M19 97 27 = M17 97 27 by rw [hM19]; exact mu_ne _ _ (by first | decide | omega)).trans q97_27_M17
        have q97_28_M19 : (M19 97 28 = M 97 28) := (show M19 97 28 = M17 97 28 by rw [hM19]; exact mu_ne _ _ (by first | decide | omega)).trans q97_28_M17
        have wM19_97_12 : M19 97 12 = M17 97 12 := by rw [hM19]; exact mu_ne _ _ (by first | decide | omega)
        have wM19_97_13 : M19 97 13 = M17 97 13 := by rw [hM19]; exact mu_ne _ _ (by first | decide | omega)
        have wM19_97_14 : M19 97 14 = M17 97 14 := by rw [hM19]; exact mu_ne _ _ (by first | decide | omega)
        have wM19_97_15 : M19 97 15 = M17 97 15 := by rw [hM19]; exact mu_ne _ _ (by first | decide | omega)
        have wM19_97_16 : M19 97 16 = M17 97 16 := by rw [hM19]; exact mu_ne _ _ (by first | decide | omega)
        have wM19_97_17 : M19 97 17 = M17 97 17 := by rw [hM19]; exact mu_ne _ _ (by first | decide | omega)
        have wM19_97_18 : M19 97 18 = M17 97 18 := by rw [hM19]; exact mu_ne _ _ (by first | decide | omega)
        have wM19_97_21 : M19 97 21 = M17 97 21 := by rw [hM19]; exact mu_ne _ _ (by first | decide | omega)
        have wM19_97_27 : M19 97 27 = M17 97 27 := by rw [hM19]; exact mu_ne _ _ (by first | decide | omega)
        have wM19_97_28 : M19 97 28 = M17 97 28 := by rw [hM19]; exact mu_ne _ _ (by first | decide | omega)
        have xM19_97_24 : M19 97 24 = v18 + 1 := by rw [hM19]; exact mu_at _ _ _ _
        have CM19_108 : M19 108 = ms (M 108) (M 97 21).toNat op := by rw [hM19, mu_cell _ _ (by decide), CM17_108]
        have CM19_109 : M19 109 = ms (M 109) (M 97 21).toNat ag := by rw [hM19, mu_cell _ _ (by decide), CM17_109]
        have CM19_110 : M19 110 = M 110 := by rw [hM19, mu_cell _ _ (by decide), CM17_110]
        have CM19_111 : M19 111 = M 111 := by rw [hM19, mu_cell _ _ (by decide), CM17_111]
        have tkM19 : TK M19 := TK.eq tkM17 (show M19 97 12 = M17 97 12 by rw [hM19]; exact mu_ne _ _ (by first | decide | omega)) (show M19 97 13 = M17 97 13 by rw [hM19]; exact mu_ne _ _ (by first | decide | omega)) (show M19 97 14 = M17 97 14 by rw [hM19]; exact mu_ne _ _ (by first | decide | omega)) (show M19 97 15 = M17 97 15 by rw [hM19]; exact mu_ne _ _ (by first | decide | omega)) (show M19 97 16 = M17 97 16 by rw [hM19]; exact mu_ne _ _ (by first | decide | omega))
        have tzM19 : TZM M19 K W S E m := TZM.eq tzM17 (by rw [hM19]; exact mu_cell _ _ (by decide)) (show M19 97 12 = M17 97 12 by rw [hM19]; exact mu_ne _ _ (by first | decide | omega))
        refine g_vreturn dX10_leaf_45 ?_
        exact ⟨iM19, fM19, q97_12_M19, q97_19_M19, q97_10_M19, q97_44_M19, q97_33_M19, q97_27_M19, q97_28_M19, Or.inl ⟨by omega, by omega, by omega, (AT.eq (muM13.resolve_right (fun z => z.1 (by omega))).2.2 (by omega) (by omega) (by omega) (by omega) (by omega)), by omega, by omega, (by rw [CM19_110, show M19 97 27 = M 97 27 by omega]; exact hf.2.2.2)⟩, (fun _ => ⟨LO.em CM19_108 CM19_109 (by omega) (by omega), CM19_111, by rw [CM19_109, ms_at]⟩), SI.leaf hs0 CM19_110 CM19_111 (by omega) (by omega) (by omega) (by omega), (fun _ => ⟨HI.leaf hs0 hh0 hop5 hag2 CM19_108 CM19_109 CM19_110 CM19_111 (by omega) (by omega), by rw [CM19_108, ms_at]⟩), LO.em CM19_108 CM19_109 (by omega) (by omega), tkM19, by omega, by omega⟩
    · refine g_iconst (pc' := 15) dX10_leaf_14 rfl ?_
      refine g_goto (tgt := 19) dX10_leaf_15 rfl ?_
      refine g_callVv (pc' := 22) (As := [vi 1]) (b := 97) (S := []) dX10_leaf_19 rfl m_X10_187 w_X10_must (c_X10_must_x X M hi 1 (by decide) htk) rfl ⟨_, _, _, rfl, rfl, rfl⟩ (by decide) (by decide) rfl (Nat.le_of_ble_eq_true rfl) (fun M21 q20 => ?_)
      obtain ⟨iM21, fM210, eM21_97_12, eM21_97_19, eM21_97_21, eM21_97_24, eM21_97_27, eM21_97_28, eM21_97_10, eM21_97_44, eM21_97_33, pM21⟩ := q20
      have fM21 : Fr (fun c => c = 97 ∨ c = 108 ∨ c = 109) M M21 := Fr.tr Fr.rf fM210 fi_44
      have q97_12_M21 : (M21 97 12 = M 97 12) := eM21_97_12
      have q97_19_M21 : (M21 97 19 = M 97 19) := eM21_97_19
      have q97_10_M21 : (M21 97 10 = M 97 10) := eM21_97_10
      have q97_44_M21 : (M21 97 44 = M 97 44) := eM21_97_44
      have q97_33_M21 : (M21 97 33 = M 97 33) := eM21_97_33
      have q97_27_M21 : (M21 97 27 = M 97 27) := eM21_97_27
      have q97_28_M21 : (M21 97 28 = M 97 28) := eM21_97_28
      have wM21_97_12 : M21 97 12 = M 97 12 := eM21_97_12
      have wM21_97_21 : M21 97 21 = M 97 21 := eM21_97_21
      have wM21_97_24 : M21 97 24 = M 97 24 := eM21_97_24
      have wM21_97_27 : M21 97 27 = M 97 27 := eM21_97_27
      have wM21_97_28 : M21 97 28 = M 97 28 := eM21_97_28
      have tzM21 : TZM M21 K W S E m := TZM.eq hz (fM210 106 (by decide)) eM21_97_12
      obtain ⟨xxM21, pM21⟩ := pM21
      have muM21 := xxM21.at_ hz hf.1 hbad (fun z => by omega)
      have CM21_108 : M21 108 = M 108 := fM210 108 (by decide)
      have CM21_109 : M21 109 = M 109 := fM210 109 (by decide)
      have CM21_110 : M21 110 = M 110 := fM210 110 (by decide)
      have CM21_111 : M21 111 = M 111 := fM210 111 (by decide)
      obtain ⟨aM21p, bM21p, cM21p, kM21p⟩ := pM21
      have tkM21 : TK M21 := kM21p
      clear kM21p
      have tbM21 := tkM21.b
      have siM21 : SI M21 F0 := SI.nx hs0 CM21_110 CM21_111 (by omega) (by omega) (by omega) (by omega)
      have hiM21 := HI.nx hh0 CM21_108 CM21_109 CM21_110 CM21_111 (by omega) (by omega)
      have loM21 : LO M M21 F0 := LO.tr (LO.rf _ _) (LO.eq CM21_108 CM21_109)
      refine g_aload_n (pc' := 23) 0 dX10_leaf_22 rfl rfl ?_
      refine g_getI (pc' := 26) dX10_leaf_23 rfl f_X10_154 rfl rfl (fun v22 ev22 rv22 => ?_)
      refine g_if_ne (pc' := 29) (tgt := 45) rv22 dX10_leaf_26 rfl rfl (fun c23 => ?_) (fun c23 => ?_)
      · refine g_vreturn dX10_leaf_45 ?_
        exact ⟨iM21, fM21, q97_12_M21, q97_19_M21, q97_10_M21, q97_44_M21, q97_33_M21, q97_27_M21, q97_28_M21, Or.inr ⟨by omega, by omega, by omega⟩, (fun z => absurd z (by omega)), siM21, LF.bad (by omega), LO.eq CM21_108 CM21_109, tkM21, by omega, by omega⟩
      · refine g_aload_n (pc' := 30) 0 dX10_leaf_29 rfl rfl ?_
        refine g_iload_n (pc' := 31) 2 dX10_leaf_30 rfl rfl ?_
        refine g_iload_n (pc' := 32) 3 dX10_leaf_31 rfl rfl ?_
        refine g_callVv (pc' := 35) (As := [vi op, vi ag]) (b := 97) (S := []) dX10_leaf_32 rfl m_X10_200 w_X10_emit (c_X10_emit_x X M21 iM21 op hop ag hag (by omega)) rfl ⟨_, _, _, rfl, rfl, rfl⟩ (by decide) (by decide) rfl (Nat.le_of_ble_eq_true rfl) (fun M25 q24 => ?_)
        obtain ⟨iM25, fM250, eM25_97_12, eM25_97_19, eM25_97_24, eM25_97_27, eM25_97_28, eM25_97_10, eM25_97_44, eM25_97_33, eM25_97_13, eM25_97_14, eM25_97_15, eM25_97_16, eM25_97_18, eM25_97_17, pM25⟩ := q24
        have fM25 : Fr (fun c => c = 97 ∨ c = 108 ∨ c = 109) M M25 := Fr.tr fM21 fM250 (fun _ z => z)
        have q97_12_M25 : (M25 97 12 = M 97 12) := eM25_97_12.trans q97_12_M21
        have q97_19_M25 : (M25 97 19 = M 97 19) := eM25_97_19.trans q97_19_M21
        have q97_10_M25 : (M25 97 10 = M 97 10) := eM25_97_10.trans q97_10_M21
        have q97_44_M25 : (M25 97 44 = M 97 44) := eM25_97_44.trans q97_44_M21
        have q97_33_M25 : (M25 97 33 = M 97 33) := eM25_97_33.trans q97_33_M21
        have q97_27_M25 : (M25 97 27 = M 97 27) := eM25_97_27.trans q97_27_M21
        have q97_28_M25 : (M25 97 28 = M 97 28) := eM25_97_28.trans q97_28_M21
        have wM25_97_12 : M25 97 12 = M21 97 12 := eM25_97_12
        have wM25_97_13 : M25 97 13 = M21 97 13 := eM25_97_13
        have wM25_97_14 : M25 97 14 = M21 97 14 := eM25_97_14
        have wM25_97_15 : M25 97 15 = M21 97 15 := eM25_97_15
        have wM25_97_16 : M25 97 16 = M21 97 16 := eM25_97_16
        have wM25_97_17 : M25 97 17 = M21 97 17 := eM25_97_17
        have wM25_97_18 : M25 97 18 = M21 97 18 := eM25_97_18
        have wM25_97_24 : M25 97 24 = M21 97 24 := eM25_97_24
        have wM25_97_27 : M25 97 27 = M21 97 27 := eM25_97_27
        have wM25_97_28 : M25 97 28 = M21 97 28 := eM25_97_28
        have tzM25 : TZM M25 K W S E m := TZM.eq tzM21 (fM250 106 (by decide)) eM25_97_12
        have CM25_108 : M25 108 = ms (M 108) (M 97 21).toNat op := by rw [pM25.1, CM21_108, show M21 97 21 = M 97 21 by omega]
        have CM25_109 : M25 109 = ms (M 109) (M 97 21).toNat ag := by rw [pM25.2.1, CM21_109, show M21 97 21 = M 97 21 by omega]
        have CM25_110 : M25 110 = M 110 := (fM250 110 (by decide)).trans CM21_110
        have CM25_111 : M25 111 = M 111 := (fM250 111 (by decide)).trans CM21_111
        have tkM25 : TK M25 := TK.eq tkM21 eM25_97_12 eM25_97_13 eM25_97_14 eM25_97_15 eM25_97_16
        have ppM25 := pM25.2.2
        clear pM25
        refine g_aload_n (pc' := 36) 0 dX10_leaf_35 rfl rfl ?_
        refine g_dup (pc' := 37) dX10_leaf_36 rfl rfl ?_
        refine g_getI (pc' := 40) dX10_leaf_37 rfl f_X10_218 rfl rfl (fun v26 ev26 rv26 => ?_)
        refine g_iconst (pc' := 41) dX10_leaf_40 rfl ?_
        refine g_iadd (pc' := 42) dX10_leaf_41 rfl ?_
        refine g_putI (pc' := 45) dX10_leaf_42 rfl p_X10_218 rfl rfl ⟨by omega, by omega⟩ (fun M27 hM27 => ?_)
        have iM27 : IM M27 := IM.wr iM25 hM27 (by unfold okv; first | decide | omega)
        have fM27 : Fr (fun c => c = 97 ∨ c = 108 ∨ c = 109) M M27 := Fr.wr fM25 hM27 (by first | decide | omega | (dsimp only; omega))
        have q97_12_M27 : (M27 97 12 = M 97 12) := (show M27 97 12 = M25 97 12 by rw [hM27]; exact mu_ne _ _ (by first | decide | omega)).trans q97_12_M25
        have q97_19_M27 : (M27 97 19 = M 97 19) := (show M27 97 19 = M25 97 19 by rw [hM27]; exact mu_ne _ _ (by first | decide | omega)).trans q97_19_M25
        have q97_10_M27 : (M27 97 10 = M 97 10) := (show M27 97 10 = M25 97 10 by rw [hM27]; exact mu_ne _ _ (by first | decide | omega)).trans q97_10_M25
        have q97_44_M27 : (M27 97 44 = M 97 44) := (show M27 97 44 = M25 97 44 by rw [hM27]; exact mu_ne _ _ (by first | decide | omega)).trans q97_44_M25
        have q97_33_M27 : (M27 97 33 = M 97 33) := (show M27 97 33 = M25 97 33 by rw [hM27]; exact mu_ne _ _ (by first | decide | omega)).trans q97_33_M25
        have q97_27_M27 : (M27 97 27 = M 97 27) := (show M27 97 27 = M25 97 27 by rw [hM27]; exact mu_ne _ _ (by first | decide | omega)).trans q97_27_M25
        have q97_28_M27 : (M27 97 28 = M 97 28) := (show M27 97 28 = M25 97 28 by rw [hM27]; exact mu_ne _ _ (by first | decide | omega)).trans q97_28_M25
        have wM27_97_12 : M27 97 12 = M25 97 12 := by rw [hM27]; exact mu_ne _ _ (by first | decide | omega)
        have wM27_97_13 : M27 97 13 = M25 97 13 := by rw [hM27]; exact mu_ne _ _ (by first | decide | omega)
        have wM27_97_14 : M27 97 14 = M25 97 14 := by rw [hM27]; exact mu_ne _ _ (by first | decide | omega)
        have wM27_97_15 : M27 97 15 = M25 97 15 := by rw [hM27]; exact mu_ne _ _ (by first | decide | omega)
        have wM27_97_16 : M27 97 16 = M25 97 16 := by rw [hM27]; exact mu_ne _ _ (by first | decide | omega)
        have wM27_97_17 : M27 97 17 = M25 97 17 := by rw [hM27]; exact mu_ne _ _ (by first | decide | omega)
        have wM27_97_18 : M27 97 18 = M25 97 18 := by rw [hM27]; exact mu_ne _ _ (by first | decide | omega)
        have wM27_97_21 : M27 97 21 = M25 97 21 := by rw [hM27]; exact mu_ne _ _ (by first | decide | omega)
        have wM27_97_27 : M27 97 27 = M25 97 27 := by rw [hM27]; exact mu_ne _ _ (by first | decide | omega)
        have wM27_97_28 : M27 97 28 = M25 97 28 := by rw [hM27]; exact mu_ne _ _ (by first | decide | omega)
        have xM27_97_24 : M27 97 24 = v26 + 1 := by rw [hM27]; exact mu_at _ _ _ _
        have CM27_108 : M27 108 = ms (M 108) (M 97 21).toNat op := by rw [hM27, mu_cell _ _ (by decide), CM25_108]
        have CM27_109 : M27 109 = ms (M 109) (M 97 21).toNat ag := by rw [hM27, mu_cell _ _ (by decide), CM25_109]
        have CM27_110 : M27 110 = M 110 := by rw [hM27, mu_cell _ _ (by decide), CM25_110]
        have CM27_111 : M27 111 = M 111 := by rw [hM27, mu_cell _ _ (by decide), CM25_111]
        have tkM27 : TK M27 := TK.eq tkM25 (show M27 97 12 = M25 97 12 by rw [hM27]; exact mu_ne _ _ (by first | decide | omega)) (show M27 97 13 = M25 97 13 by rw [hM27]; exact mu_ne _ _ (by first | decide | omega)) (show M27 97 14 = M25 97 14 by rw [hM27]; exact mu_ne _ _ (by first | decide | omega)) (show M27 97 15 = M25 97 15 by rw [hM27]; exact mu_ne _ _ (by first | decide | omega)) (show M27 97 16 = M25 97 16 by rw [hM27]; exact mu_ne _ _ (by first | decide | omega))
        have tzM27 : TZM M27 K W S E m := TZM.eq tzM25 (by rw [hM27]; exact mu_cell _ _ (by decide)) (show M27 97 12 = M25 97 12 by rw [hM27]; exact mu_ne _ _ (by first | decide | omega))
        refine g_vreturn dX10_leaf_45 ?_
        exact ⟨iM27, fM27, q97_12_M27, q97_19_M27, q97_10_M27, q97_44_M27, q97_33_M27, q97_27_M27, q97_28_M27, Or.inl ⟨by omega, by omega, by omega, (AT.eq (muM21.resolve_right (fun z => z.1 (by omega))).2.2 (by omega) (by omega) (by omega) (by omega) (by omega)), by omega, by omega, (by rw [CM27_110, show M27 97 27 = M 97 27 by omega]; exact hf.2.2.2)⟩, (fun _ => ⟨LO.em CM27_108 CM27_109 (by omega) (by omega), CM27_111, by rw [CM27_109, ms_at]⟩), SI.leaf hs0 CM27_110 CM27_111 (by omega) (by omega) (by omega) (by omega), (fun _ => ⟨HI.leaf hs0 hh0 hop5 hag2 CM27_108 CM27_109 CM27_110 CM27_111 (by omega) (by omega), by rw [CM27_108, ms_at]⟩), LO.em CM27_108 CM27_109 (by omega) (by omega), tkM27, by omega, by omega⟩
set_option maxHeartbeats 4000000 in
set_option maxRecDepth 100000 in
theorem j_X10_readPart_z_199 (X : Cx) (M : Mm) (hi : IM M) (F0 : Int) (hs0 : SI M F0) (hh0 : HI M F0 0) (t : Int) (ht01 : t = 0 ∨ t = 1) (hq0 : SQ M t) (htk : TK M) (hbad : M 97 18 = 0) (K W S E : Nat → Int) (m i : Nat) (lv : Int) (ops : List Int) (vs : List Mng) (hz : TZM M K W S E m) (hf : RFo K W S E m M i lv ops) (hrq : RLq M F0 ops vs) (its : Int) (at_ : Int) (sf : Int) (gl : Int) (M1 : Mm) (ic1 : IM M1) (fr1 : Fr (fun c => c = 97 ∨ (108 ≤ c ∧ c ≤ 111)) M M1) (q97_12 : (M1 97 12 = M 97 12)) (q97_19 : (M1 97 19 = M 97 19)) (q97_10 : (M1 97 10 = M 97 10)) (q97_44 : (M1 97 44 = M 97 44)) (q97_33 : (M1 97 33 = M 97 33)) (ov : Int) (hov : (its = -1 ∧ ov = 0) ∨ (its ≠ -1 ∧ ov = its)) (si1 : SI M1 F0) (lf1 : LF M1 F0 (M 97 21) ov) (lo1 : LO M M1 F0) (sq1 : SQ M1 3) (tk1 : TK M1) (fa1 : M 97 13 ≤ M1 97 13) (fb1 : M1 97 18 = 0 → M 97 13 < M1 97 13 ∧ M1 97 21 = M 97 21 + 1) (hit : its = -1 ∨ (1 ≤ its ∧ its ≤ 4)) (rl1 : RL1q M M1 its (W i)) (hat : M1 97 18 = 0 → (at_ = M 97 21 ∧ 0 ≤ sf ∧ sf ≤ 3)) (hsf : (0 ≤ sf ∧ sf ≤ 1000) ∧ (-1 ≤ at_ ∧ at_ ≤ 400)) (hgl : M1 97 18 = 0 → 0 ≤ gl ∧ gl ≤ 5) (hg0 : 0 ≤ gl ∧ gl ≤ 1000) (hsv : HSVq (M1 97 18) its sf (W (i + 1))) (hgv : HGVq (M1 97 18) its gl (W (i + 1)) (W (i + 1 + 1))) (hit2 : ITS K W i its) (tz1 : TZM M1 K W S E m) (pq : RFs K W S E m M1 3 (stPa K W i lv ops vs)) : G X 4 RX10 cX10_readPart 6 (some .int) (Qi (fun r M1 => IM M1 ∧ Fr (fun c => c = 97 ∨ (108 ≤ c ∧ c ≤ 111)) M M1 ∧ M1 97 12 = M 97 12 ∧ M1 97 19 = M 97 19 ∧ M1 97 10 = M 97 10 ∧ M1 97 44 = M 97 44 ∧ M1 97 33 = M 97 33 ∧ ((RFs K W S E m M1 r (stPa K W i lv ops vs)) ∧ (RLt M1 F0 (stPa K W i lv ops vs)) ∧ (0 ≤ r ∧ r ≤ 4) ∧ PS M1 F0 r ∧ LO M M1 F0 ∧ TK M1 ∧ M 97 13 ≤ M1 97 13 ∧ mz (M1 97 13) (M1 97 18) r < mz (M 97 13) (M 97 18) t))) 199 [(1, vi its), (3, vi at_), (4, vi sf), (5, vi gl), (0, vr X 97)] [] M1 := by
  have p12 := hi.2.2.2.1
  have sa0 := hs0.ar
  have sa1 := si1.ar
  have tb1 := tk1.b
  have lt1 := tk1.lt
  refine g_aload_n (pc' := 200) 4 dX10_readPart_199 rfl rfl ?_
  refine g_getI (pc' := 203) dX10_readPart_200 rfl f_X10_154 rfl rfl (fun v1 ev1 rv1 => ?_)
  refine g_if_ne (pc' := 206) (tgt := 225) rv1 dX10_readPart_203 rfl rfl (fun c2 => ?_) (fun c2 => ?_)
  · refine g_iconst (pc' := 226) dX10_readPart_225 rfl ?_
    refine g_ireturn dX10_readPart_226 ?_
    exact ⟨ic1, fr1, q97_12, q97_19, q97_10, q97_44, q97_33, pq, (fun hb => RLt.leafn hit2 (by omega) pq hb hrq (by omega) (rl1 hb).1 (rl1 hb).2.1 (by have q := LF.at_ lf1 hb; omega) ((rl1 hb).2.2 (by omega)) (by omega) hb), ⟨by omega, by omega⟩, (PS.lf si1 lf1 sq1), lo1, tk1, by omega, (mz_lt hbad (by omega) (by omega) (by omega))⟩
  · refine g_iload_n (pc' := 207) 0 dX10_readPart_206 rfl rfl ?_
    refine g_iconst (pc' := 208) dX10_readPart_207 rfl ?_
    refine g_ic_eq (pc' := 211) (tgt := 225) ⟨by omega, by omega⟩ (by decide) dX10_readPart_208 rfl rfl (fun c3 => ?_) (fun c3 => ?_)
    · refine g_iconst (pc' := 226) dX10_readPart_225 rfl ?_
      refine g_ireturn dX10_readPart_226 ?_
      exact ⟨ic1, fr1, q97_12, q97_19, q97_10, q97_44, q97_33, pq, (fun hb => RLt.leafn hit2 (by omega) pq hb hrq (by omega) (rl1 hb).1 (rl1 hb).2.1 (by have q := LF.at_ lf1 hb; omega) ((rl1 hb).2.2 (by omega)) (by omega) hb), ⟨by omega, by omega⟩, (PS.lf si1 lf1 sq1), lo1, tk1, by omega, (mz_lt hbad (by omega) (by omega) (by omega))⟩
    · refine g_aload_n (pc' := 212) 4 dX10_readPart_211 rfl rfl ?_
      refine g_getR (pc' := 215) dX10_readPart_212 rfl f_X10_49 rfl rfl ?_
      refine g_iload_n (pc' := 216) 1 dX10_readPart_215 rfl rfl ?_
      refine g_bipush (pc' := 218) (v := 6) dX10_readPart_216 rfl (by decide) ?_
      refine g_iload (pc' := 220) 2 dX10_readPart_218 rfl rfl ?_
      refine g_imul (pc' := 221) dX10_readPart_220 rfl ?_
      refine g_iload (pc' := 223) 3 dX10_readPart_221 rfl rfl ?_
      refine g_iadd (pc' := 224) dX10_readPart_223 rfl ?_
      refine g_iast (pc' := 225) dX10_readPart_224 rfl rfl (by omega) (by omega) ⟨by omega, by omega⟩ (fun M4 hM4 => ?_)
      have iM4 : IM M4 := IM.wr ic1 hM4 (by unfold okv; first | decide | omega)
      have fM4 : Fr (fun c => c = 97 ∨ (108 ≤ c ∧ c ≤ 111)) M M4 := Fr.wr fr1 hM4 (by first | decide | omega | (dsimp only; omega))
      have q97_12_M4 : (M4 97 12 = M 97 12) := (show M4 97 12 = M1 97 12 by rw [hM4]; exact mu_ne _ _ (by first | decide | omega)).trans q97_12
      have q97_19_M4 : (M4 97 19 = M 97 19) := (show M4 97 19 = M1 97 19 by rw [hM4]; exact mu_ne _ _ (by first | decide | omega)).trans q97_19
      have q97_10_M4 : (M4 97 10 = M 97 10) := (show M4 97 10 = M1 97 10 by rw [hM4]; exact mu_ne _ _ (by first | decide | omega)).trans q97_10
      have q97_44_M4 : (M4 97 44 = M 97 44) := (show M4 97 44 = M1 97 44 by rw [hM4]; exact mu_ne _ _ (by first | decide | omega)).trans q97_44
      have q97_33_M4 : (M4 97 33 = M 97 33) := (show M4 97 33 = M1 97 33 by rw [hM4]; exact mu_ne _ _ (by first | decide | omega)).trans q97_33
      have wM4_97_12 : M4 97 12 = M1 97 12 := by rw [hM4]; exact mu_ne _ _ (by first | decide | omega)
      have wM4_97_13 : M4 97 13 = M1 97 13 := by rw [hM4]; exact mu_ne _ _ (by first | decide | omega)
      have wM4_97_14 : M4 97 14 = M1 97 14 := by rw [hM4]; exact mu_ne _ _ (by first | decide | omega)
      have wM4_97_15 : M4 97 15 = M1 97 15 := by rw [hM4]; exact mu_ne _ _ (by first | decide | omega)
      have wM4_97_16 : M4 97 16 = M1 97 16 := by rw [hM4]; exact mu_ne _ _ (by first | decide | omega)
      have wM4_97_17 : M4 97 17 = M1 97 17 := by rw [hM4]; exact mu_ne _ _ (by first | decide | omega)
      have wM4_97_18 : M4 97 18 = M1 97 18 := by rw [hM4]; exact mu_ne _ _ (by first | decide | omega)
      have wM4_97_21 : M4 97 21 = M1 97 21 := by rw [hM4]; exact mu_ne _ _ (by first | decide | omega)
      have wM4_97_24 : M4 97 24 = M1 97 24 := by rw [hM4]; exact mu_ne _ _ (by first | decide | omega)
      have wM4_97_27 : M4 97 27 = M1 97 27 := by rw [hM4]; exact mu_ne _ _ (by first | decide | omega)
      have wM4_97_28 : M4 97 28 = M1 97 28 := by rw [hM4]; exact mu_ne _ _ (by first | decide | omega)
      have CM4_108 : M4 108 = M1 108 := by rw [hM4, mu_cell _ _ (by decide)]
      have CM4_109 : M4 109 = ms (M1 109) at_.toNat ((6 * sf) + gl) := by rw [hM4, mu_is]
      have CM4_110 : M4 110 = M1 110 := by rw [hM4, mu_cell _ _ (by decide)]
      have CM4_111 : M4 111 = M1 111 := by rw [hM4, mu_cell _ _ (by decide)]
      have tkM4 : TK M4 := TK.eq tk1 (show M4 97 12 = M1 97 12 by rw [hM4]; exact mu_ne _ _ (by first | decide | omega)) (show M4 97 13 = M1 97 13 by rw [hM4]; exact mu_ne _ _ (by first | decide | omega)) (show M4 97 14 = M1 97 14 by rw [hM4]; exact mu_ne _ _ (by first | decide | omega)) (show M4 97 15 = M1 97 15 by rw [hM4]; exact mu_ne _ _ (by first | decide | omega)) (show M4 97 16 = M1 97 16 by rw [hM4]; exact mu_ne _ _ (by first | decide | omega))
      have tzM4 : TZM M4 K W S E m := TZM.eq tz1 (by rw [hM4]; exact mu_cell _ _ (by decide)) (show M4 97 12 = M1 97 12 by rw [hM4]; exact mu_ne _ _ (by first | decide | omega))
      have psM4 : PS M4 F0 3 := PS.mk_ (q := 1) (SI.nx si1 CM4_110 CM4_111 (by omega) (by omega) (by omega) (by omega)) (HI.arg (LF.hi lf1 (by omega)) (by rw [show at_ = M 97 21 by omega, LF.at_ lf1 (by omega)]; omega) (by omega) CM4_108 CM4_109 CM4_110 CM4_111 (by omega) (by omega)) (SQ.nx sq1 CM4_110 (by omega) (by omega)) (by omega)
      have loM4 : LO M M4 F0 := LO.tr lo1 (LO.ar CM4_108 CM4_109 (by omega))
      refine g_iconst (pc' := 226) dX10_readPart_225 rfl ?_
      refine g_ireturn dX10_readPart_226 ?_
      exact ⟨iM4, fM4, q97_12_M4, q97_19_M4, q97_10_M4, q97_44_M4, q97_33_M4, pq.eq (by omega) (by omega) (by omega) (by omega) (by omega) (by omega) (by omega) (by omega) (by omega) CM4_110, (fun hb => RLt.leafw (sf := sf) (gl := gl) hit2 (by omega) pq (by omega) hrq (by omega) (LO.tr (rl1 (by omega)).1 (LO.ar CM4_108 CM4_109 (by omega))) (CM4_111.trans (rl1 (by omega)).2.1) (by rw [CM4_108]; have q := LF.at_ lf1 (by omega); omega) (by rw [CM4_109, show (M 97 21).toNat = at_.toNat by omega, ms_at]) (hsv (by omega)) (hgv (by omega)) (by omega) hb), ⟨by omega, by omega⟩, psM4, loM4, tkM4, by omega, (mz_lt hbad (by omega) (by omega) (by omega))⟩
set_option maxHeartbeats 4000000 in
set_option maxRecDepth 100000 in
theorem j_X10_readPart_z_171 (X : Cx) (M : Mm) (hi : IM M) (F0 : Int) (hs0 : SI M F0) (hh0 : HI M F0 0) (t : Int) (ht01 : t = 0 ∨ t = 1) (hq0 : SQ M t) (htk : TK M) (hbad : M 97 18 = 0) (K W S E : Nat → Int) (m i : Nat) (lv : Int) (ops : List Int) (vs : List Mng) (hz : TZM M K W S E m) (hf : RFo K W S E m M i lv ops) (hrq : RLq M F0 ops vs) (its : Int) (at_ : Int) (sf : Int) (M1 : Mm) (ic1 : IM M1) (fr1 : Fr (fun c => c = 97 ∨ (108 ≤ c ∧ c ≤ 111)) M M1) (q97_12 : (M1 97 12 = M 97 12)) (q97_19 : (M1 97 19 = M 97 19)) (q97_10 : (M1 97 10 = M 97 10)) (q97_44 : (M1 97 44 = M 97 44)) (q97_33 : (M1 97 33 = M 97 33)) (ov : Int) (hov : (its = -1 ∧ ov = 0) ∨ (its ≠ -1 ∧ ov = its)) (si1 : SI M1 F0) (lf1 : LF M1 F0 (M 97 21) ov) (lo1 : LO M M1 F0) (sq1 : SQ M1 3) (tk1 : TK M1) (fa1 : M 97 13 ≤ M1 97 13) (fb1 : M1 97 18 = 0 → M 97 13 < M1 97 13 ∧ M1 97 21 = M 97 21 + 1) (hit : its = -1 ∨ (1 ≤ its ∧ its ≤ 4)) (rl1 : RL1q M M1 its (W i)) (hat : M1 97 18 = 0 → (at_ = M 97 21 ∧ 0 ≤ sf ∧ sf ≤ 3)) (hsf : (0 ≤ sf ∧ sf ≤ 1000) ∧ (-1 ≤ at_ ∧ at_ ≤ 400)) (hsv : HSVq (M1 97 18) its sf (W (i + 1))) (hit2 : ITS K W i its) (tz1 : TZM M1 K W S E m) (pq : P171 K W S E m i lv ops vs its M1) : G X 4 RX10 cX10_readPart 6 (some .int) (Qi (fun r M1 => IM M1 ∧ Fr (fun c => c = 97 ∨ (108 ≤ c ∧ c ≤ 111)) M M1 ∧ M1 97 12 = M 97 12 ∧ M1 97 19 = M 97 19 ∧ M1 97 10 = M 97 10 ∧ M1 97 44 = M 97 44 ∧ M1 97 33 = M 97 33 ∧ ((RFs K W S E m M1 r (stPa K W i lv ops vs)) ∧ (RLt M1 F0 (stPa K W i lv ops vs)) ∧ (0 ≤ r ∧ r ≤ 4) ∧ PS M1 F0 r ∧ LO M M1 F0 ∧ TK M1 ∧ M 97 13 ≤ M1 97 13 ∧ mz (M1 97 13) (M1 97 18) r < mz (M 97 13) (M 97 18) t))) 171 [(1, vi its), (3, vi at_), (4, vi sf), (0, vr X 97)] [] M1 := by
  have p12 := hi.2.2.2.1
  have sa0 := hs0.ar
  have sa1 := si1.ar
  have tb1 := tk1.b
  have lt1 := tk1.lt
  refine g_iload_n (pc' := 172) 0 dX10_readPart_171 rfl rfl ?_
  refine g_iconst (pc' := 173) dX10_readPart_172 rfl ?_
  refine g_ic_eq (pc' := 176) (tgt := 196) ⟨by omega, by omega⟩ (by decide) dX10_readPart_173 rfl rfl (fun c1 => ?_) (fun c1 => ?_)
  · refine g_iconst (pc' := 197) dX10_readPart_196 rfl ?_
    refine g_istore (pc' := 199) (L' := [(5, vi 0), (1, vi its), (3, vi at_), (4, vi sf), (0, vr X 97)]) dX10_readPart_197 rfl (by decide) rfl ?_
    refine g_sub [1, 2, 3, 0, 4] rfl ?_
    exact j_X10_readPart_z_199 X M hi F0 hs0 hh0 t ht01 hq0 htk hbad K W S E m i lv ops vs hz hf hrq its at_ sf 0 M1 ic1 fr1 q97_12 q97_19 q97_10 q97_44 q97_33 ov (by omega) si1 lf1 lo1 sq1 tk1 (by omega) (by omega) (by omega) rl1 (by omega) (by omega) (by omega) (by omega) (fun z => hsv (by omega)) (fun z => ⟨fun y => by omega, fun y => by omega, fun y => by omega⟩) hit2 tz1 (P199.skip hit2 pq (by omega))
  · refine g_iload_n (pc' := 177) 0 dX10_readPart_176 rfl rfl ?_
    refine g_iconst (pc' := 178) dX10_readPart_177 rfl ?_
    refine g_ic_eq (pc' := 181) (tgt := 196) ⟨by omega, by omega⟩ (by decide) dX10_readPart_178 rfl rfl (fun c2 => ?_) (fun c2 => ?_)
    · refine g_iconst (pc' := 197) dX10_readPart_196 rfl ?_
      refine g_istore (pc' := 199) (L' := [(5, vi 0), (1, vi its), (3, vi at_), (4, vi sf), (0, vr X 97)]) dX10_readPart_197 rfl (by decide) rfl ?_
      refine g_sub [1, 2, 3, 0, 4] rfl ?_
      exact j_X10_readPart_z_199 X M hi F0 hs0 hh0 t ht01 hq0 htk hbad K W S E m i lv ops vs hz hf hrq its at_ sf 0 M1 ic1 fr1 q97_12 q97_19 q97_10 q97_44 q97_33 ov (by omega) si1 lf1 lo1 sq1 tk1 (by omega) (by omega) (by omega) rl1 (by omega) (by omega) (by omega) (by omega) (fun z => hsv (by omega)) (fun z => ⟨fun y => by omega, fun y => by omega, fun y => by omega⟩) hit2 tz1 (P199.skip hit2 pq (by omega))
    · refine g_aload_n (pc' := 182) 3 dX10_readPart_181 rfl rfl ?_
      refine g_getI (pc' := 185) dX10_readPart_182 rfl f_X10_154 rfl rfl (fun v3 ev3 rv3 => ?_)
      refine g_if_ne (pc' := 188) (tgt := 196) rv3 dX10_readPart_185 rfl rfl (fun c4 => ?_) (fun c4 => ?_)
      · refine g_iconst (pc' := 197) dX10_readPart_196 rfl ?_
        refine g_istore (pc' := 199) (L' := [(5, vi 0), (1, vi its), (3, vi at_), (4, vi sf), (0, vr X 97)]) dX10_readPart_197 rfl (by decide) rfl ?_
        refine g_sub [1, 2, 3, 0, 4] rfl ?_
        exact j_X10_readPart_z_199 X M hi F0 hs0 hh0 t ht01 hq0 htk hbad K W S E m i lv ops vs hz hf hrq its at_ sf 0 M1 ic1 fr1 q97_12 q97_19 q97_10 q97_44 q97_33 ov (by omega) si1 lf1 lo1 sq1 tk1 (by omega) (by omega) (by omega) rl1 (by omega) (by omega) (by omega) (by omega) (fun z => hsv (by omega)) (fun z => ⟨fun y => by omega, fun y => by omega, fun y => by omega⟩) hit2 tz1 (P199.skip hit2 pq (by omega))
      · refine g_aload_n (pc' := 189) 3 dX10_readPart_188 rfl rfl ?_
        refine g_iconst (pc' := 190) dX10_readPart_189 rfl ?_
        refine g_callVi (pc' := 193) (As := [vi 5]) (b := 97) (S := []) dX10_readPart_190 rfl m_X10_245 w_X10_readNumber (c_X10_readNumber_x X M1 ic1 5 (by decide) tk1 (by omega)) rfl ⟨_, _, _, rfl, rfl, rfl⟩ (by decide) (by decide) rfl (Nat.le_of_ble_eq_true rfl) (fun z6 M7 q5 => ?_)
        obtain ⟨iM7, fM70, eM7_97_12, eM7_97_19, eM7_97_21, eM7_97_24, eM7_97_27, eM7_97_28, eM7_97_10, eM7_97_44, eM7_97_33, pM7⟩ := q5
        have fM7 : Fr (fun c => c = 97 ∨ (108 ≤ c ∧ c ≤ 111)) M M7 := Fr.tr fr1 fM70 fi_45
        have q97_12_M7 : (M7 97 12 = M 97 12) := eM7_97_12.trans q97_12
        have q97_19_M7 : (M7 97 19 = M 97 19) := eM7_97_19.trans q97_19
        have q97_10_M7 : (M7 97 10 = M 97 10) := eM7_97_10.trans q97_10
        have q97_44_M7 : (M7 97 44 = M 97 44) := eM7_97_44.trans q97_44
        have q97_33_M7 : (M7 97 33 = M 97 33) := eM7_97_33.trans q97_33
        have wM7_97_12 : M7 97 12 = M1 97 12 := eM7_97_12
        have wM7_97_21 : M7 97 21 = M1 97 21 := eM7_97_21
        have wM7_97_24 : M7 97 24 = M1 97 24 := eM7_97_24
        have wM7_97_27 : M7 97 27 = M1 97 27 := eM7_97_27
        have wM7_97_28 : M7 97 28 = M1 97 28 := eM7_97_28
        have tzM7 : TZM M7 K W S E m := TZM.eq tz1 (fM70 106 (by decide)) eM7_97_12
        obtain ⟨xxM7, pM7⟩ := pM7
        have CM7_108 : M7 108 = M1 108 := fM70 108 (by decide)
        have CM7_109 : M7 109 = M1 109 := fM70 109 (by decide)
        have CM7_110 : M7 110 = M1 110 := fM70 110 (by decide)
        have CM7_111 : M7 111 = M1 111 := fM70 111 (by decide)
        obtain ⟨aM7p, bM7p, cM7p, dM7p, kM7p⟩ := pM7
        have tkM7 : TK M7 := kM7p
        clear kM7p
        have tbM7 := tkM7.b
        have siM7 : SI M7 F0 := SI.nx si1 CM7_110 CM7_111 (by omega) (by omega) (by omega) (by omega)
        have sqM7 : SQ M7 3 := SQ.nx sq1 CM7_110 (by omega) (by omega)
        have lfM7 : LF M7 F0 (M 97 21) ov := LF.nx lf1 CM7_108 CM7_109 CM7_110 CM7_111 (by omega) (by omega) (by omega)
        have loM7 : LO M M7 F0 := LO.tr lo1 (LO.eq CM7_108 CM7_109)
        refine g_goto (tgt := 197) dX10_readPart_193 rfl ?_
        refine g_istore (pc' := 199) (L' := [(5, vi z6), (1, vi its), (3, vi at_), (4, vi sf), (0, vr X 97)]) dX10_readPart_197 rfl (by decide) rfl ?_
        refine g_sub [1, 2, 3, 0, 4] rfl ?_
        exact j_X10_readPart_z_199 X M hi F0 hs0 hh0 t ht01 hq0 htk hbad K W S E m i lv ops vs hz hf hrq its at_ sf z6 M7 iM7 fM7 q97_12_M7 q97_19_M7 q97_10_M7 q97_44_M7 q97_33_M7 ov (by omega) siM7 lfM7 loM7 sqM7 tkM7 (by omega) (by omega) (by omega) (fun z => ⟨LO.tr (rl1 (by omega)).1 (LO.eq CM7_108 CM7_109), CM7_111.trans (rl1 (by omega)).2.1, fun y => by rw [CM7_109]; exact (rl1 (by omega)).2.2 y⟩) (by omega) (by omega) (by omega) (by omega) (fun z => hsv (by omega)) (fun z => ⟨fun y => by have q := xxM7.at_ tz1 ((pq.2 (by omega)).2.2.1 y).2.1 (by omega); omega, fun y => by have q := xxM7.at_ tz1 ((pq.2 (by omega)).2.2.2 (by omega)).1 (by omega); omega, fun y => by omega⟩) hit2 tzM7 (P199.num hit2 pq (by omega) (by omega) tz1 xxM7 (by omega) (by omega) (by omega) CM7_110)
set_option maxHeartbeats 4000000 in
set_option maxRecDepth 100000 in
theorem j_X10_readPart_z_141 (X : Cx) (M : Mm) (hi : IM M) (F0 : Int) (hs0 : SI M F0) (hh0 : HI M F0 0) (t : Int) (ht01 : t = 0 ∨ t = 1) (hq0 : SQ M t) (htk : TK M) (hbad : M 97 18 = 0) (K W S E : Nat → Int) (m i : Nat) (lv : Int) (ops : List Int) (vs : List Mng) (hz : TZM M K W S E m) (hf : RFo K W S E m M i lv ops) (hrq : RLq M F0 ops vs) (its : Int) (M1 : Mm) (ic1 : IM M1) (fr1 : Fr (fun c => c = 97 ∨ (108 ≤ c ∧ c ≤ 111)) M M1) (q97_12 : (M1 97 12 = M 97 12)) (q97_19 : (M1 97 19 = M 97 19)) (q97_10 : (M1 97 10 = M 97 10)) (q97_44 : (M1 97 44 = M 97 44)) (q97_33 : (M1 97 33 = M 97 33)) (ov : Int) (hov : (its = -1 ∧ ov = 0) ∨ (its ≠ -1 ∧ ov = its)) (si1 : SI M1 F0) (lf1 : LF M1 F0 (M 97 21) ov) (lo1 : LO M M1 F0) (sq1 : SQ M1 3) (tk1 : TK M1) (fa1 : M 97 13 ≤ M1 97 13) (fb1 : M1 97 18 = 0 → M 97 13 < M1 97 13 ∧ M1 97 21 = M 97 21 + 1) (hit : its = -1 ∨ (1 ≤ its ∧ its ≤ 4)) (rl1 : RL1q M M1 its (W i)) (hit2 : ITS K W i its) (tz1 : TZM M1 K W S E m) (pq : P141 K W S E m i lv ops vs its M1) : G X 4 RX10 cX10_readPart 6 (some .int) (Qi (fun r M1 => IM M1 ∧ Fr (fun c => c = 97 ∨ (108 ≤ c ∧ c ≤ 111)) M M1 ∧ M1 97 12 = M 97 12 ∧ M1 97 19 = M 97 19 ∧ M1 97 10 = M 97 10 ∧ M1 97 44 = M 97 44 ∧ M1 97 33 = M 97 33 ∧ ((RFs K W S E m M1 r (stPa K W i lv ops vs)) ∧ (RLt M1 F0 (stPa K W i lv ops vs)) ∧ (0 ≤ r ∧ r ≤ 4) ∧ PS M1 F0 r ∧ LO M M1 F0 ∧ TK M1 ∧ M 97 13 ≤ M1 97 13 ∧ mz (M1 97 13) (M1 97 18) r < mz (M 97 13) (M 97 18) t))) 141 [(1, vi its), (0, vr X 97)] [] M1 := by
  have p12 := hi.2.2.2.1
  have sa0 := hs0.ar
  have sa1 := si1.ar
  have tb1 := tk1.b
  have lt1 := tk1.lt
  refine g_aload_n (pc' := 142) 1 dX10_readPart_141 rfl rfl ?_
  refine g_getI (pc' := 145) dX10_readPart_142 rfl f_X10_191 rfl rfl (fun v1 ev1 rv1 => ?_)
  refine g_iconst (pc' := 146) dX10_readPart_145 rfl ?_
  refine g_isub (pc' := 147) dX10_readPart_146 rfl ?_
  obtain ⟨x2, ex2⟩ : ∃ z : Int, z = v1 - 1 := ⟨_, rfl⟩
  rw [← ex2]
  refine g_istore_n (pc' := 148) (i := 3) (L' := [(3, vi x2), (1, vi its), (0, vr X 97)]) dX10_readPart_147 rfl rfl (by decide) rfl ?_
  refine g_iload_n (pc' := 149) 1 dX10_readPart_148 rfl rfl ?_
  refine g_iconst (pc' := 150) dX10_readPart_149 rfl ?_
  refine g_ic_ne (pc' := 153) (tgt := 168) ⟨by omega, by omega⟩ (by decide) dX10_readPart_150 rfl rfl (fun c3 => ?_) (fun c3 => ?_)
  · refine g_iconst (pc' := 169) dX10_readPart_168 rfl ?_
    refine g_istore (pc' := 171) (L' := [(4, vi 0), (3, vi x2), (1, vi its), (0, vr X 97)]) dX10_readPart_169 rfl (by decide) rfl ?_
    refine g_sub [2, 1, 0, 3] rfl ?_
    exact j_X10_readPart_z_171 X M hi F0 hs0 hh0 t ht01 hq0 htk hbad K W S E m i lv ops vs hz hf hrq its x2 0 M1 ic1 fr1 q97_12 q97_19 q97_10 q97_44 q97_33 ov (by omega) si1 lf1 lo1 sq1 tk1 (by omega) (by omega) (by omega) rl1 (by omega) (by omega) (fun z => ⟨fun y => by omega, fun y => by omega⟩) hit2 tz1 (P171.skip pq (by omega))
  · refine g_aload_n (pc' := 154) 2 dX10_readPart_153 rfl rfl ?_
    refine g_getI (pc' := 157) dX10_readPart_154 rfl f_X10_154 rfl rfl (fun v4 ev4 rv4 => ?_)
    refine g_if_ne (pc' := 160) (tgt := 168) rv4 dX10_readPart_157 rfl rfl (fun c5 => ?_) (fun c5 => ?_)
    · refine g_iconst (pc' := 169) dX10_readPart_168 rfl ?_
      refine g_istore (pc' := 171) (L' := [(4, vi 0), (3, vi x2), (1, vi its), (0, vr X 97)]) dX10_readPart_169 rfl (by decide) rfl ?_
      refine g_sub [2, 1, 0, 3] rfl ?_
      exact j_X10_readPart_z_171 X M hi F0 hs0 hh0 t ht01 hq0 htk hbad K W S E m i lv ops vs hz hf hrq its x2 0 M1 ic1 fr1 q97_12 q97_19 q97_10 q97_44 q97_33 ov (by omega) si1 lf1 lo1 sq1 tk1 (by omega) (by omega) (by omega) rl1 (by omega) (by omega) (fun z => ⟨fun y => by omega, fun y => by omega⟩) hit2 tz1 (P171.skip pq (by omega))
    · refine g_aload_n (pc' := 161) 2 dX10_readPart_160 rfl rfl ?_
      refine g_iconst (pc' := 162) dX10_readPart_161 rfl ?_
      refine g_callVi (pc' := 165) (As := [vi 3]) (b := 97) (S := []) dX10_readPart_162 rfl m_X10_245 w_X10_readNumber (c_X10_readNumber_x X M1 ic1 3 (by decide) tk1 (by omega)) rfl ⟨_, _, _, rfl, rfl, rfl⟩ (by decide) (by decide) rfl (Nat.le_of_ble_eq_true rfl) (fun z7 M8 q6 => ?_)
      obtain ⟨iM8, fM80, eM8_97_12, eM8_97_19, eM8_97_21, eM8_97_24, eM8_97_27, eM8_97_28, eM8_97_10, eM8_97_44, eM8_97_33, pM8⟩ := q6
      have fM8 : Fr (fun c => c = 97 ∨ (108 ≤ c ∧ c ≤ 111)) M M8 := Fr.tr fr1 fM80 fi_45
      have q97_12_M8 : (M8 97 12 = M 97 12) := eM8_97_12.trans q97_12
      have q97_19_M8 : (M8 97 19 = M 97 19) := eM8_97_19.trans q97_19
      have q97_10_M8 : (M8 97 10 = M 97 10) := eM8_97_10.trans q97_10
      have q97_44_M8 : (M8 97 44 = M 97 44) := eM8_97_44.trans q97_44
      have q97_33_M8 : (M8 97 33 = M 97 33) := eM8_97_33.trans q97_33
      have wM8_97_12 : M8 97 12 = M1 97 12 := eM8_97_12
      have wM8_97_21 : M8 97 21 = M1 97 21 := eM8_97_21
      have wM8_97_24 : M8 97 24 = M1 97 24 := eM8_97_24
      have wM8_97_27 : M8 97 27 = M1 97 27 := eM8_97_27
      have wM8_97_28 : M8 97 28 = M1 97 28 := eM8_97_28
      have tzM8 : TZM M8 K W S E m := TZM.eq tz1 (fM80 106 (by decide)) eM8_97_12
      obtain ⟨xxM8, pM8⟩ := pM8
      have CM8_108 : M8 108 = M1 108 := fM80 108 (by decide)
      have CM8_109 : M8 109 = M1 109 := fM80 109 (by decide)
      have CM8_110 : M8 110 = M1 110 := fM80 110 (by decide)
      have CM8_111 : M8 111 = M1 111 := fM80 111 (by decide)
      obtain ⟨aM8p, bM8p, cM8p, dM8p, kM8p⟩ := pM8
      have tkM8 : TK M8 := kM8p
      clear kM8p
      have tbM8 := tkM8.b
      have siM8 : SI M8 F0 := SI.nx si1 CM8_110 CM8_111 (by omega) (by omega) (by omega) (by omega)
      have sqM8 : SQ M8 3 := SQ.nx sq1 CM8_110 (by omega) (by omega)
      have lfM8 : LF M8 F0 (M 97 21) ov := LF.nx lf1 CM8_108 CM8_109 CM8_110 CM8_111 (by omega) (by omega) (by omega)
      have loM8 : LO M M8 F0 := LO.tr lo1 (LO.eq CM8_108 CM8_109)
      refine g_goto (tgt := 169) dX10_readPart_165 rfl ?_
      refine g_istore (pc' := 171) (L' := [(4, vi z7), (3, vi x2), (1, vi its), (0, vr X 97)]) dX10_readPart_169 rfl (by decide) rfl ?_
      refine g_sub [2, 1, 0, 3] rfl ?_
      exact j_X10_readPart_z_171 X M hi F0 hs0 hh0 t ht01 hq0 htk hbad K W S E m i lv ops vs hz hf hrq its x2 z7 M8 iM8 fM8 q97_12_M8 q97_19_M8 q97_10_M8 q97_44_M8 q97_33_M8 ov (by omega) siM8 lfM8 loM8 sqM8 tkM8 (by omega) (by omega) (by omega) (fun z => ⟨LO.tr (rl1 (by omega)).1 (LO.eq CM8_108 CM8_109), CM8_111.trans (rl1 (by omega)).2.1, fun y => by rw [CM8_109]; exact (rl1 (by omega)).2.2 y⟩) (by omega) (by omega) (fun z => ⟨fun y => by have q := xxM8.at_ tz1 (pq.2 (by omega)).2.2.1 (by omega); omega, fun y => by omega⟩) hit2 tzM8 (P171.num hit2 pq (by omega) (by omega) tz1 xxM8 (by omega) (by omega) (by omega) CM8_110)
set_option maxHeartbeats 4000000 in
set_option maxRecDepth 100000 in
theorem j_X10_readPart_z_100 (X : Cx) (M : Mm) (hi : IM M) (F0 : Int) (hs0 : SI M F0) (hh0 : HI M F0 0) (t : Int) (ht01 : t = 0 ∨ t = 1) (hq0 : SQ M t) (htk : TK M) (hbad : M 97 18 = 0) (K W S E : Nat → Int) (m i : Nat) (lv : Int) (ops : List Int) (vs : List Mng) (hz : TZM M K W S E m) (hf : RFo K W S E m M i lv ops) (hrq : RLq M F0 ops vs) (its : Int) (dg : Int) (hit : its = -1 ∨ (1 ≤ its ∧ its ≤ 4)) (his : its ≠ -1 → M 97 15 = 1) (hdg : dg = 0 ∨ (dg = 1 ∧ M 97 15 = 2 ∧ 0 ≤ M 97 16 ∧ M 97 16 ≤ 1000)) (hit2 : ITS K W i its) (hdq : (dg = 1 ∧ K i = 2 ∧ W i ≤ 1000) ∨ (dg = 0 ∧ ¬ (K i = 2 ∧ W i ≤ 1000))) : G X 4 RX10 cX10_readPart 6 (some .int) (Qi (fun r M1 => IM M1 ∧ Fr (fun c => c = 97 ∨ (108 ≤ c ∧ c ≤ 111)) M M1 ∧ M1 97 12 = M 97 12 ∧ M1 97 19 = M 97 19 ∧ M1 97 10 = M 97 10 ∧ M1 97 44 = M 97 44 ∧ M1 97 33 = M 97 33 ∧ ((RFs K W S E m M1 r (stPa K W i lv ops vs)) ∧ (RLt M1 F0 (stPa K W i lv ops vs)) ∧ (0 ≤ r ∧ r ≤ 4) ∧ PS M1 F0 r ∧ LO M M1 F0 ∧ TK M1 ∧ M 97 13 ≤ M1 97 13 ∧ mz (M1 97 13) (M1 97 18) r < mz (M 97 13) (M 97 18) t))) 100 [(1, vi its), (2, vi dg), (0, vr X 97)] [] M := by
  have p12 := hi.2.2.2.1
  have sa0 := hs0.ar
  have tb0 := htk.b
  have lt0 := htk.lt
  have hf2 := hf.2.1
  have hf3 := hf.2.2.1
  have aw0 := hf.1.w hz
  have on0 := opn_nn ops
  refine g_aload_n (pc' := 101) 2 dX10_readPart_100 rfl rfl ?_
  refine g_iload_n (pc' := 102) 0 dX10_readPart_101 rfl rfl ?_
  refine g_iconst (pc' := 103) dX10_readPart_102 rfl ?_
  refine g_ic_ne (pc' := 106) (tgt := 110) ⟨by omega, by omega⟩ (by decide) dX10_readPart_103 rfl rfl (fun c1 => ?_) (fun c1 => ?_)
  · refine g_iconst (pc' := 111) dX10_readPart_110 rfl ?_
    refine g_goto (tgt := 115) dX10_readPart_111 rfl ?_
    refine g_iload_n (pc' := 116) 0 dX10_readPart_115 rfl rfl ?_
    refine g_iconst (pc' := 117) dX10_readPart_116 rfl ?_
    refine g_ic_ne (pc' := 120) (tgt := 124) ⟨by omega, by omega⟩ (by decide) dX10_readPart_117 rfl rfl (fun c2 => ?_) (fun c2 => ?_)
    · refine g_iload_n (pc' := 125) 0 dX10_readPart_124 rfl rfl ?_
      refine g_iload_n (pc' := 126) 1 dX10_readPart_125 rfl rfl ?_
      refine g_if_eq (pc' := 129) (tgt := 137) ⟨by omega, by omega⟩ dX10_readPart_126 rfl rfl (fun c3 => ?_) (fun c3 => ?_)
      · refine g_iconst (pc' := 138) dX10_readPart_137 rfl ?_
        refine g_callVv (pc' := 141) (As := [vi 1, vi its, vi 0]) (b := 97) (S := []) dX10_readPart_138 rfl m_X10_241 w_X10_leaf (c_X10_leaf_z X M hi 1 (by decide) its ⟨by omega, by omega⟩ 0 (by decide) F0 hs0 hh0 htk (by omega) (by omega) (by omega) hbad K W S E m i lv ops vs hz hf hrq) rfl ⟨_, _, _, rfl, rfl, rfl⟩ (by decide) (by decide) rfl (Nat.le_of_ble_eq_true rfl) (fun M5 q4 => ?_)
        obtain ⟨iM5, fM50, eM5_97_12, eM5_97_19, eM5_97_10, eM5_97_44, eM5_97_33, eM5_97_27, eM5_97_28, pM5⟩ := q4
        have fM5 : Fr (fun c => c = 97 ∨ (108 ≤ c ∧ c ≤ 111)) M M5 := Fr.tr Fr.rf fM50 fi_46
        have q97_12_M5 : (M5 97 12 = M 97 12) := eM5_97_12
        have q97_19_M5 : (M5 97 19 = M 97 19) := eM5_97_19
        have q97_10_M5 : (M5 97 10 = M 97 10) := eM5_97_10
        have q97_44_M5 : (M5 97 44 = M 97 44) := eM5_97_44
        have q97_33_M5 : (M5 97 33 = M 97 33) := eM5_97_33
        have wM5_97_12 : M5 97 12 = M 97 12 := eM5_97_12
        have wM5_97_27 : M5 97 27 = M 97 27 := eM5_97_27
        have wM5_97_28 : M5 97 28 = M 97 28 := eM5_97_28
        have tzM5 : TZM M5 K W S E m := TZM.eq hz (fM50 106 (by decide)) eM5_97_12
        obtain ⟨xxM5, zqM5, pM5⟩ := pM5
        have CM5_110 : M5 110 = M 110 := fM50 110 (by decide)
        have CM5_111 : M5 111 = M 111 := fM50 111 (by decide)
        obtain ⟨siM5, lfM5, loM5, tkM5, faM5, fbM5⟩ := pM5
        have tbM5 := tkM5.b
        refine g_sub [0, 2] rfl ?_
        exact j_X10_readPart_z_141 X M hi F0 hs0 hh0 t ht01 hq0 htk hbad K W S E m i lv ops vs hz hf hrq its M5 iM5 fM5 q97_12_M5 q97_19_M5 q97_10_M5 q97_44_M5 q97_33_M5 its (by omega) siM5 lfM5 loM5 (SQ.nx hq0 (fM50 110 (by decide)) (by omega) (by omega)) tkM5 (by omega) (by omega) (by omega) (fun z => ⟨(zqM5 z).1, (zqM5 z).2.1, fun y => by
            have q := (zqM5 z).2.2
            have q2 := xxM5
            unfold LFQ at q2
            omega⟩) hit2 tzM5 (P141.mk_ hit2 xxM5 (by omega))
      · refine g_aload_n (pc' := 130) 2 dX10_readPart_129 rfl rfl ?_
        refine g_getL (pc' := 133) dX10_readPart_130 rfl f_X10_164 rfl rfl (fun v6 ev6 rv6 => ?_)
        refine g_l2i (pc' := 134) dX10_readPart_133 rfl ?_
        refine g_goto (tgt := 138) dX10_readPart_134 rfl ?_
        refine g_callVv (pc' := 141) (As := [vi 1, vi its, vi v6]) (b := 97) (S := []) dX10_readPart_138 rfl m_X10_241 w_X10_leaf (c_X10_leaf_z X M hi 1 (by decide) its ⟨by omega, by omega⟩ v6 ⟨by omega, by omega⟩ F0 hs0 hh0 htk (by omega) (by omega) (by omega) hbad K W S E m i lv ops vs hz hf hrq) rfl ⟨_, _, _, rfl, rfl, rfl⟩ (by decide) (by decide) rfl (Nat.le_of_ble_eq_true rfl) (fun M8 q7 => ?_)
        obtain ⟨iM8, fM80, eM8_97_12, eM8_97_19, eM8_97_10, eM8_97_44, eM8_97_33, eM8_97_27, eM8_97_28, pM8⟩ := q7
        have fM8 : Fr (fun c => c = 97 ∨ (108 ≤ c ∧ c ≤ 111)) M M8 := Fr.tr Fr.rf fM80 fi_46
        have q97_12_M8 : (M8 97 12 = M 97 12) := eM8_97_12
        have q97_19_M8 : (M8 97 19 = M 97 19) := eM8_97_19
        have q97_10_M8 : (M8 97 10 = M 97 10) := eM8_97_10
        have q97_44_M8 : (M8 97 44 = M 97 44) := eM8_97_44
        have q97_33_M8 : (M8 97 33 = M 97 33) := eM8_97_33
        have wM8_97_12 : M8 97 12 = M 97 12 := eM8_97_12
        have wM8_97_27 : M8 97 27 = M 97 27 := eM8_97_27
        have wM8_97_28 : M8 97 28 = M 97 28 := eM8_97_28
        have tzM8 : TZM M8 K W S E m := TZM.eq hz (fM80 106 (by decide)) eM8_97_12
        obtain ⟨xxM8, zqM8, pM8⟩ := pM8
        have CM8_110 : M8 110 = M 110 := fM80 110 (by decide)
        have CM8_111 : M8 111 = M 111 := fM80 111 (by decide)
        obtain ⟨siM8, lfM8, loM8, tkM8, faM8, fbM8⟩ := pM8
        have tbM8 := tkM8.b
        refine g_sub [0, 2] rfl ?_
        exact j_X10_readPart_z_141 X M hi F0 hs0 hh0 t ht01 hq0 htk hbad K W S E m i lv ops vs hz hf hrq its M8 iM8 fM8 q97_12_M8 q97_19_M8 q97_10_M8 q97_44_M8 q97_33_M8 its (by omega) siM8 lfM8 loM8 (SQ.nx hq0 (fM80 110 (by decide)) (by omega) (by omega)) tkM8 (by omega) (by omega) (by omega) (fun z => ⟨(zqM8 z).1, (zqM8 z).2.1, fun y => by
            have q := (zqM8 z).2.2
            have q2 := xxM8
            unfold LFQ at q2
            omega⟩) hit2 tzM8 (P141.mk_ hit2 xxM8 (by omega))
    · refine g_iconst (pc' := 121) dX10_readPart_120 rfl ?_
      refine g_goto (tgt := 125) dX10_readPart_121 rfl ?_
      refine g_iload_n (pc' := 126) 1 dX10_readPart_125 rfl rfl ?_
      refine g_if_eq (pc' := 129) (tgt := 137) ⟨by omega, by omega⟩ dX10_readPart_126 rfl rfl (fun c9 => ?_) (fun c9 => ?_)
      · refine g_iconst (pc' := 138) dX10_readPart_137 rfl ?_
        refine g_callVv (pc' := 141) (As := [vi 1, vi 0, vi 0]) (b := 97) (S := []) dX10_readPart_138 rfl m_X10_241 w_X10_leaf (c_X10_leaf_z X M hi 1 (by decide) 0 (by decide) 0 (by decide) F0 hs0 hh0 htk (by omega) (by omega) (by omega) hbad K W S E m i lv ops vs hz hf hrq) rfl ⟨_, _, _, rfl, rfl, rfl⟩ (by decide) (by decide) rfl (Nat.le_of_ble_eq_true rfl) (fun M11 q10 => ?_)
        obtain ⟨iM11, fM110, eM11_97_12, eM11_97_19, eM11_97_10, eM11_97_44, eM11_97_33, eM11_97_27, eM11_97_28, pM11⟩ := q10
        have fM11 : Fr (fun c => c = 97 ∨ (108 ≤ c ∧ c ≤ 111)) M M11 := Fr.tr Fr.rf fM110 fi_46
        have q97_12_M11 : (M11 97 12 = M 97 12) := eM11_97_12
        have q97_19_M11 : (M11 97 19 = M 97 19) := eM11_97_19
        have q97_10_M11 : (M11 97 10 = M 97 10) := eM11_97_10
        have q97_44_M11 : (M11 97 44 = M 97 44) := eM11_97_44
        have q97_33_M11 : (M11 97 33 = M 97 33) := eM11_97_33
        have wM11_97_12 : M11 97 12 = M 97 12 := eM11_97_12
        have wM11_97_27 : M11 97 27 = M 97 27 := eM11_97_27
        have wM11_97_28 : M11 97 28 = M 97 28 := eM11_97_28
        have tzM11 : TZM M11 K W S E m := TZM.eq hz (fM110 106 (by decide)) eM11_97_12
        obtain ⟨xxM11, zqM11, pM11⟩ := pM11
        have CM11_110 : M11 110 = M 110 := fM110 110 (by decide)
        have CM11_111 : M11 111 = M 111 := fM110 111 (by decide)
        obtain ⟨siM11, lfM11, loM11, tkM11, faM11, fbM11⟩ := pM11
        have tbM11 := tkM11.b
        refine g_sub [0, 2] rfl ?_
        exact j_X10_readPart_z_141 X M hi F0 hs0 hh0 t ht01 hq0 htk hbad K W S E m i lv ops vs hz hf hrq its M11 iM11 fM11 q97_12_M11 q97_19_M11 q97_10_M11 q97_44_M11 q97_33_M11 0 (by omega) siM11 lfM11 loM11 (SQ.nx hq0 (fM110 110 (by decide)) (by omega) (by omega)) tkM11 (by omega) (by omega) (by omega) (fun z => ⟨(zqM11 z).1, (zqM11 z).2.1, fun y => by
            have q := (zqM11 z).2.2
            have q2 := xxM11
            unfold LFQ at q2
            omega⟩) hit2 tzM11 (P141.mk_ hit2 xxM11 (by omega))
      · refine g_aload_n (pc' := 130) 2 dX10_readPart_129 rfl rfl ?_
        refine g_getL (pc' := 133) dX10_readPart_130 rfl f_X10_164 rfl rfl (fun v12 ev12 rv12 => ?_)
        refine g_l2i (pc' := 134) dX10_readPart_133 rfl ?_
        refine g_goto (tgt := 138) dX10_readPart_134 rfl ?_
        refine g_callVv (pc' := 141) (As := [vi 1, vi 0, vi v12]) (b := 97) (S := []) dX10_readPart_138 rfl m_X10_241 w_X10_leaf (c_X10_leaf_z X M hi 1 (by decide) 0 (by decide) v12 ⟨by omega, by omega⟩ F0 hs0 hh0 htk (by omega) (by omega) (by omega) hbad K W S E m i lv ops vs hz hf hrq) rfl ⟨_, _, _, rfl, rfl, rfl⟩ (by decide) (by decide) rfl (Nat.le_of_ble_eq_true rfl) (fun M14 q13 => ?_)
        obtain ⟨iM14, fM140, eM14_97_12, eM14_97_19, eM14_97_10, eM14_97_44, eM14_97_33, eM14_97_27, eM14_97_28, pM14⟩ := q13
        have fM14 : Fr (fun c => c = 97 ∨ (108 ≤ c ∧ c ≤ 111)) M M14 := Fr.tr Fr.rf fM140 fi_46
        have q97_12_M14 : (M14 97 12 = M 97 12) := eM14_97_12
        have q97_19_M14 : (M14 97 19 = M 97 19) := eM14_97_19
        have q97_10_M14 : (M14 97 10 = M 97 10) := eM14_97_10
        have q97_44_M14 : (M14 97 44 = M 97 44) := eM14_97_44
        have q97_33_M14 : (M14 97 33 = M 97 33) := eM14_97_33
        have wM14_97_12 : M14 97 12 = M 97 12 := eM14_97_12
        have wM14_97_27 : M14 97 27 = M 97 27 := eM14_97_27
        have wM14_97_28 : M14 97 28 = M 97 28 := eM14_97_28
        have tzM14 : TZM M14 K W S E m := TZM.eq hz (fM140 106 (by decide)) eM14_97_12
        obtain ⟨xxM14, zqM14, pM14⟩ := pM14
        have CM14_110 : M14 110 = M 110 := fM140 110 (by decide)
        have CM14_111 : M14 111 = M 111 := fM140 111 (by decide)
        obtain ⟨siM14, lfM14, loM14, tkM14, faM14, fbM14⟩ := pM14
        have tbM14 := tkM14.b
        refine g_sub [0, 2] rfl ?_
        exact j_X10_readPart_z_141 X M hi F0 hs0 hh0 t ht01 hq0 htk hbad K W S E m i lv ops vs hz hf hrq its M14 iM14 fM14 q97_12_M14 q97_19_M14 q97_10_M14 q97_44_M14 q97_33_M14 0 (by omega) siM14 lfM14 loM14 (SQ.nx hq0 (fM140 110 (by decide)) (by omega) (by omega)) tkM14 (by omega) (by omega) (by omega) (fun z => ⟨(zqM14 z).1, (zqM14 z).2.1, fun y => by
            have q := (zqM14 z).2.2
            have q2 := xxM14
            unfold LFQ at q2
            omega⟩) hit2 tzM14 (P141.mk_ hit2 xxM14 (by omega))
  · refine g_iload_n (pc' := 107) 1 dX10_readPart_106 rfl rfl ?_
    refine g_if_eq (pc' := 110) (tgt := 114) ⟨by omega, by omega⟩ dX10_readPart_107 rfl rfl (fun c15 => ?_) (fun c15 => ?_)
    · refine g_iconst (pc' := 115) dX10_readPart_114 rfl ?_
      refine g_iload_n (pc' := 116) 0 dX10_readPart_115 rfl rfl ?_
      refine g_iconst (pc' := 117) dX10_readPart_116 rfl ?_
      refine g_ic_ne (pc' := 120) (tgt := 124) ⟨by omega, by omega⟩ (by decide) dX10_readPart_117 rfl rfl (fun c16 => ?_) (fun c16 => ?_)
      · refine g_iload_n (pc' := 125) 0 dX10_readPart_124 rfl rfl ?_
        refine g_iload_n (pc' := 126) 1 dX10_readPart_125 rfl rfl ?_
        refine g_if_eq (pc' := 129) (tgt := 137) ⟨by omega, by omega⟩ dX10_readPart_126 rfl rfl (fun c17 => ?_) (fun c17 => ?_)
        · refine g_iconst (pc' := 138) dX10_readPart_137 rfl ?_
          refine g_callVv (pc' := 141) (As := [vi 0, vi its, vi 0]) (b := 97) (S := []) dX10_readPart_138 rfl m_X10_241 w_X10_leaf (c_X10_leaf_z X M hi 0 (by decide) its ⟨by omega, by omega⟩ 0 (by decide) F0 hs0 hh0 htk (by omega) (by omega) (by omega) hbad K W S E m i lv ops vs hz hf hrq) rfl ⟨_, _, _, rfl, rfl, rfl⟩ (by decide) (by decide) rfl (Nat.le_of_ble_eq_true rfl) (fun M19 q18 => ?_)
          obtain ⟨iM19, fM190, eM19_97_12, eM19_97_19, eM19_97_10, eM19_97_44, eM19_97_33, eM19_97_27, eM19_97_28, pM19⟩ := q18
          have fM19 : Fr (fun c => c = 97 ∨ (108 ≤ c ∧ c ≤ 111)) M M19 := Fr.tr Fr.rf fM190 fi_46
          have q97_12_M19 : (M19 97 12 = M 97 12) := eM19_97_12
          have q97_19_M19 : (M19 97 19 = M 97 19) := eM19_97_19
          have q97_10_M19 : (M19 97 10 = M 97 10) := eM19_97_10
          have q97_44_M19 : (M19 97 44 = M 97 44) := eM19_97_44
          have q97_33_M19 : (M19 97 33 = M 97 33) := eM19_97_33
          have wM19_97_12 : M19 97 12 = M 97 12 := eM19_97_12
          have wM19_97_27 : M19 97 27 = M 97 27 := eM19_97_27
          have wM19_97_28 : M19 97 28 = M 97 28 := eM19_97_28
          have tzM19 : TZM M19 K W S E m := TZM.eq hz (fM190 106 (by decide)) eM19_97_12
          obtain ⟨xxM19, zqM19, pM19⟩ := pM19
          have CM19_110 : M19 110 = M 110 := fM190 110 (by decide)
          have CM19_111 : M19 111 = M 111 := fM190 111 (by decide)
          obtain ⟨siM19, lfM19, loM19, tkM19, faM19, fbM19⟩ := pM19
          have tbM19 := tkM19.b
          refine g_sub [0, 2] rfl ?_
          exact j_X10_readPart_z_141 X M hi F0 hs0 hh0 t ht01 hq0 htk hbad K W S E m i lv ops vs hz hf hrq its M19 iM19 fM19 q97_12_M19 q97_19_M19 q97_10_M19 q97_44_M19 q97_33_M19 its (by omega) siM19 lfM19 loM19 (SQ.nx hq0 (fM190 110 (by decide)) (by omega) (by omega)) tkM19 (by omega) (by omega) (by omega) (fun z => ⟨(zqM19 z).1, (zqM19 z).2.1, fun y => by
              have q := (zqM19 z).2.2
              have q2 := xxM19
              unfold LFQ at q2
              omega⟩) hit2 tzM19 (P141.mk_ hit2 xxM19 (by omega))
        · refine g_aload_n (pc' := 130) 2 dX10_readPart_129 rfl rfl ?_
          refine g_getL (pc' := 133) dX10_readPart_130 rfl f_X10_164 rfl rfl (fun v20 ev20 rv20 => ?_)
          refine g_l2i (pc' := 134) dX10_readPart_133 rfl ?_
          refine g_goto (tgt := 138) dX10_readPart_134 rfl ?_
          refine g_callVv (pc' := 141) (As := [vi 0, vi its, vi v20]) (b := 97) (S := []) dX10_readPart_138 rfl m_X10_241 w_X10_leaf (c_X10_leaf_z X M hi 0 (by decide) its ⟨by omega, by omega⟩ v20 ⟨by omega, by omega⟩ F0 hs0 hh0 htk (by omega) (by omega) (by omega) hbad K W S E m i lv ops vs hz hf hrq) rfl ⟨_, _, _, rfl, rfl, rfl⟩ (by decide) (by decide) rfl (Nat.le_of_ble_eq_true rfl) (fun M22 q21 => ?_)
          obtain ⟨iM22, fM220, eM22_97_12, eM22_97_19, eM22_97_10, eM22_97_44, eM22_97_33, eM22_97_27, eM22_97_28, pM22⟩ := q21
          have fM22 : Fr (fun c => c = 97 ∨ (108 ≤ c ∧ c ≤ 111)) M M22 := Fr.tr Fr.rf fM220 fi_46
          have q97_12_M22 : (M22 97 12 = M 97 12) := eM22_97_12
          have q97_19_M22 : (M22 97 19 = M 97 19) := eM22_97_19
          have q97_10_M22 : (M22 97 10 = M 97 10) := eM22_97_10
          have q97_44_M22 : (M22 97 44 = M 97 44) := eM22_97_44
          have q97_33_M22 : (M22 97 33 = M 97 33) := eM22_97_33
          have wM22_97_12 : M22 97 12 = M 97 12 := eM22_97_12
          have wM22_97_27 : M22 97 27 = M 97 27 := eM22_97_27
          have wM22_97_28 : M22 97 28 = M 97 28 := eM22_97_28
          have tzM22 : TZM M22 K W S E m := TZM.eq hz (fM220 106 (by decide)) eM22_97_12
          obtain ⟨xxM22, zqM22, pM22⟩ := pM22
          have CM22_110 : M22 110 = M 110 := fM220 110 (by decide)
          have CM22_111 : M22 111 = M 111 := fM220 111 (by decide)
          obtain ⟨siM22, lfM22, loM22, tkM22, faM22, fbM22⟩ := pM22
          have tbM22 := tkM22.b
          refine g_sub [0, 2] rfl ?_
          exact j_X10_readPart_z_141 X M hi F0 hs0 hh0 t ht01 hq0 htk hbad K W S E m i lv ops vs hz hf hrq its M22 iM22 fM22 q97_12_M22 q97_19_M22 q97_10_M22 q97_44_M22 q97_33_M22 its (by omega) siM22 lfM22 loM22 (SQ.nx hq0 (fM220 110 (by decide)) (by omega) (by omega)) tkM22 (by omega) (by omega) (by omega) (fun z => ⟨(zqM22 z).1, (zqM22 z).2.1, fun y => by
              have q := (zqM22 z).2.2
              have q2 := xxM22
              unfold LFQ at q2
              omega⟩) hit2 tzM22 (P141.mk_ hit2 xxM22 (by omega))
      · refine g_iconst (pc' := 121) dX10_readPart_120 rfl ?_
        refine g_goto (tgt := 125) dX10_readPart_121 rfl ?_
        refine g_iload_n (pc' := 126) 1 dX10_readPart_125 rfl rfl ?_
        refine g_if_eq (pc' := 129) (tgt := 137) ⟨by omega, by omega⟩ dX10_readPart_126 rfl rfl (fun c23 => ?_) (fun c23 => ?_)
        · refine g_iconst (pc' := 138) dX10_readPart_137 rfl ?_
          refine g_callVv (pc' := 141) (As := [vi 0, vi 0, vi 0]) (b := 97) (S := []) dX10_readPart_138 rfl m_X10_241 w_X10_leaf (c_X10_leaf_z X M hi 0 (by decide) 0 (by decide) 0 (by decide) F0 hs0 hh0 htk (by omega) (by omega) (by omega) hbad K W S E m i lv ops vs hz hf hrq) rfl ⟨_, _, _, rfl, rfl, rfl⟩ (by decide) (by decide) rfl (Nat.le_of_ble_eq_true rfl) (fun M25 q24 => ?_)
          obtain ⟨iM25, fM250, eM25_97_12, eM25_97_19, eM25_97_10, eM25_97_44, eM25_97_33, eM25_97_27, eM25_97_28, pM25⟩ := q24
          have fM25 : Fr (fun c => c = 97 ∨ (108 ≤ c ∧ c ≤ 111)) M M25 := Fr.tr Fr.rf fM250 fi_46
          have q97_12_M25 : (M25 97 12 = M 97 12) := eM25_97_12
          have q97_19_M25 : (M25 97 19 = M 97 19) := eM25_97_19
          have q97_10_M25 : (M25 97 10 = M 97 10) := eM25_97_10
          have q97_44_M25 : (M25 97 44 = M 97 44) := eM25_97_44
          have q97_33_M25 : (M25 97 33 = M 97 33) := eM25_97_33
          have wM25_97_12 : M25 97 12 = M 97 12 := eM25_97_12
          have wM25_97_27 : M25 97 27 = M 97 27 := eM25_97_27
          have wM25_97_28 : M25 97 28 = M 97 28 := eM25_97_28
          have tzM25 : TZM M25 K W S E m := TZM.eq hz (fM250 106 (by decide)) eM25_97_12
          obtain ⟨xxM25, zqM25, pM25⟩ := pM25
          have CM25_110 : M25 110 = M 110 := fM250 110 (by decide)
          have CM25_111 : M25 111 = M 111 := fM250 111 (by decide)
          obtain ⟨siM25, lfM25, loM25, tkM25, faM25, fbM25⟩ := pM25
          have tbM25 := tkM25.b
          refine g_sub [0, 2] rfl ?_
          exact j_X10_readPart_z_141 X M hi F0 hs0 hh0 t ht01 hq0 htk hbad K W S E m i lv ops vs hz hf hrq its M25 iM25 fM25 q97_12_M25 q97_19_M25 q97_10_M25 q97_44_M25 q97_33_M25 0 (by omega) siM25 lfM25 loM25 (SQ.nx hq0 (fM250 110 (by decide)) (by omega) (by omega)) tkM25 (by omega) (by omega) (by omega) (fun z => ⟨(zqM25 z).1, (zqM25 z).2.1, fun y => by
              have q := (zqM25 z).2.2
              have q2 := xxM25
              unfold LFQ at q2
              omega⟩) hit2 tzM25 (P141.mk_ hit2 xxM25 (by omega))
        · refine g_aload_n (pc' := 130) 2 dX10_readPart_129 rfl rfl ?_
          refine g_getL (pc' := 133) dX10_readPart_130 rfl f_X10_164 rfl rfl (fun v26 ev26 rv26 => ?_)
          refine g_l2i (pc' := 134) dX10_readPart_133 rfl ?_
          refine g_goto (tgt := 138) dX10_readPart_134 rfl ?_
          refine g_callVv (pc' := 141) (As := [vi 0, vi 0, vi v26]) (b := 97) (S := []) dX10_readPart_138 rfl m_X10_241 w_X10_leaf (c_X10_leaf_z X M hi 0 (by decide) 0 (by decide) v26 ⟨by omega, by omega⟩ F0 hs0 hh0 htk (by omega) (by omega) (by omega) hbad K W S E m i lv ops vs hz hf hrq) rfl ⟨_, _, _, rfl, rfl, rfl⟩ (by decide) (by decide) rfl (Nat.le_of_ble_eq_true rfl) (fun M28 q27 => ?_)
          obtain ⟨iM28, fM280, eM28_97_12, eM28_97_19, eM28_97_10, eM28_97_44, eM28_97_33, eM28_97_27, eM28_97_28, pM28⟩ := q27
          have fM28 : Fr (fun c => c = 97 ∨ (108 ≤ c ∧ c ≤ 111)) M M28 := Fr.tr Fr.rf fM280 fi_46
          have q97_12_M28 : (M28 97 12 = M 97 12) := eM28_97_12
          have q97_19_M28 : (M28 97 19 = M 97 19) := eM28_97_19
          have q97_10_M28 : (M28 97 10 = M 97 10) := eM28_97_10
          have q97_44_M28 : (M28 97 44 = M 97 44) := eM28_97_44
          have q97_33_M28 : (M28 97 33 = M 97 33) := eM28_97_33
          have wM28_97_12 : M28 97 12 = M 97 12 := eM28_97_12
          have wM28_97_27 : M28 97 27 = M 97 27 := eM28_97_27
          have wM28_97_28 : M28 97 28 = M 97 28 := eM28_97_28
          have tzM28 : TZM M28 K W S E m := TZM.eq hz (fM280 106 (by decide)) eM28_97_12
          obtain ⟨xxM28, zqM28, pM28⟩ := pM28
          have CM28_110 : M28 110 = M 110 := fM280 110 (by decide)
          have CM28_111 : M28 111 = M 111 := fM280 111 (by decide)
          obtain ⟨siM28, lfM28, loM28, tkM28, faM28, fbM28⟩ := pM28
          have tbM28 := tkM28.b
          refine g_sub [0, 2] rfl ?_
          exact j_X10_readPart_z_141 X M hi F0 hs0 hh0 t ht01 hq0 htk hbad K W S E m i lv ops vs hz hf hrq its M28 iM28 fM28 q97_12_M28 q97_19_M28 q97_10_M28 q97_44_M28 q97_33_M28 0 (by omega) siM28 lfM28 loM28 (SQ.nx hq0 (fM280 110 (by decide)) (by omega) (by omega)) tkM28 (by omega) (by omega) (by omega) (fun z => ⟨(zqM28 z).1, (zqM28 z).2.1, fun y => by
              have q := (zqM28 z).2.2
              have q2 := xxM28
              unfold LFQ at q2
              omega⟩) hit2 tzM28 (P141.mk_ hit2 xxM28 (by omega))
    · refine g_iconst (pc' := 111) dX10_readPart_110 rfl ?_
      refine g_goto (tgt := 115) dX10_readPart_111 rfl ?_
      refine g_iload_n (pc' := 116) 0 dX10_readPart_115 rfl rfl ?_
      refine g_iconst (pc' := 117) dX10_readPart_116 rfl ?_
      refine g_ic_ne (pc' := 120) (tgt := 124) ⟨by omega, by omega⟩ (by decide) dX10_readPart_117 rfl rfl (fun c29 => ?_) (fun c29 => ?_)
      · refine g_iload_n (pc' := 125) 0 dX10_readPart_124 rfl rfl ?_
        refine g_iload_n (pc' := 126) 1 dX10_readPart_125 rfl rfl ?_
        refine g_if_eq (pc' := 129) (tgt := 137) ⟨by omega, by omega⟩ dX10_readPart_126 rfl rfl (fun c30 => ?_) (fun c30 => ?_)
        · refine g_iconst (pc' := 138) dX10_readPart_137 rfl ?_
          refine g_callVv (pc' := 141) (As := [vi 1, vi its, vi 0]) (b := 97) (S := []) dX10_readPart_138 rfl m_X10_241 w_X10_leaf (c_X10_leaf_z X M hi 1 (by decide) its ⟨by omega, by omega⟩ 0 (by decide) F0 hs0 hh0 htk (by omega) (by omega) (by omega) hbad K W S E m i lv ops vs hz hf hrq) rfl ⟨_, _, _, rfl, rfl, rfl⟩ (by decide) (by decide) rfl (Nat.le_of_ble_eq_true rfl) (fun M32 q31 => ?_)
          obtain ⟨iM32, fM320, eM32_97_12, eM32_97_19, eM32_97_10, eM32_97_44, eM32_97_33, eM32_97_27, eM32_97_28, pM32⟩ := q31
          have fM32 : Fr (fun c => c = 97 ∨ (108 ≤ c ∧ c ≤ 111)) M M32 := Fr.tr Fr.rf fM320 fi_46
          have q97_12_M32 : (M32 97 12 = M 97 12) := eM32_97_12
          have q97_19_M32 : (M32 97 19 = M 97 19) := eM32_97_19
          have q97_10_M32 : (M32 97 10 = M 97 10) := eM32_97_10
          have q97_44_M32 : (M32 97 44 = M 97 44) := eM32_97_44
          have q97_33_M32 : (M32 97 33 = M 97 33) := eM32_97_33
          have wM32_97_12 : M32 97 12 = M 97 12 := eM32_97_12
          have wM32_97_27 : M32 97 27 = M 97 27 := eM32_97_27
          have wM32_97_28 : M32 97 28 = M 97 28 := eM32_97_28
          have tzM32 : TZM M32 K W S E m := TZM.eq hz (fM320 106 (by decide)) eM32_97_12
          obtain ⟨xxM32, zqM32, pM32⟩ := pM32
          have CM32_110 : M32 110 = M 110 := fM320 110 (by decide)
          have CM32_111 : M32 111 = M 111 := fM320 111 (by decide)
          obtain ⟨siM32, lfM32, loM32, tkM32, faM32, fbM32⟩ := pM32
          have tbM32 := tkM32.b
          refine g_sub [0, 2] rfl ?_
          exact j_X10_readPart_z_141 X M hi F0 hs0 hh0 t ht01 hq0 htk hbad K W S E m i lv ops vs hz hf hrq its M32 iM32 fM32 q97_12_M32 q97_19_M32 q97_10_M32 q97_44_M32 q97_33_M32 its (by omega) siM32 lfM32 loM32 (SQ.nx hq0 (fM320 110 (by decide)) (by omega) (by omega)) tkM32 (by omega) (by omega) (by omega) (fun z => ⟨(zqM32 z).1, (zqM32 z).2.1, fun y => by
              have q := (zqM32 z).2.2
              have q2 := xxM32
              unfold LFQ at q2
              omega⟩) hit2 tzM32 (P141.mk_ hit2 xxM32 (by omega))
        · refine g_aload_n (pc' := 130) 2 dX10_readPart_129 rfl rfl ?_
          refine g_getL (pc' := 133) dX10_readPart_130 rfl f_X10_164 rfl rfl (fun v33 ev33 rv33 => ?_)
          refine g_l2i (pc' := 134) dX10_readPart_133 rfl ?_
          refine g_goto (tgt := 138) dX10_readPart_134 rfl ?_
          refine g_callVv (pc' := 141) (As := [vi 1, vi its, vi v33]) (b := 97) (S := []) dX10_readPart_138 rfl m_X10_241 w_X10_leaf (c_X10_leaf_z X M hi 1 (by decide) its ⟨by omega, by omega⟩ v33 ⟨by omega, by omega⟩ F0 hs0 hh0 htk (by omega) (by omega) (by omega) hbad K W S E m i lv ops vs hz hf hrq) rfl ⟨_, _, _, rfl, rfl, rfl⟩ (by decide) (by decide) rfl (Nat.le_of_ble_eq_true rfl) (fun M35 q34 => ?_)
          obtain ⟨iM35, fM350, eM35_97_12, eM35_97_19, eM35_97_10, eM35_97_44, eM35_97_33, eM35_97_27, eM35_97_28, pM35⟩ := q34
          have fM35 : Fr (fun c => c = 97 ∨ (108 ≤ c ∧ c ≤ 111)) M M35 := Fr.tr Fr.rf fM350 fi_46
          have q97_12_M35 : (M35 97 12 = M 97 12) := eM35_97_12
          have q97_19_M35 : (M35 97 19 = M 97 19) := eM35_97_19
          have q97_10_M35 : (M35 97 10 = M 97 10) := eM35_97_10
          have q97_44_M35 : (M35 97 44 = M 97 44) := eM35_97_44
          have q97_33_M35 : (M35 97 33 = M 97 33) := eM35_97_33
          have wM35_97_12 : M35 97 12 = M 97 12 := eM35_97_12
          have wM35_97_27 : M35 97 27 = M 97 27 := eM35_97_27
          have wM35_97_28 : M35 97 28 = M 97 28 := eM35_97_28
          have tzM35 : TZM M35 K W S E m := TZM.eq hz (fM350 106 (by decide)) eM35_97_12
          obtain ⟨xxM35, zqM35, pM35⟩ := pM35
          have CM35_110 : M35 110 = M 110 := fM350 110 (by decide)
          have CM35_111 : M35 111 = M 111 := fM350 111 (by decide)
          obtain ⟨siM35, lfM35, loM35, tkM35, faM35, fbM35⟩ := pM35
          have tbM35 := tkM35.b
          refine g_sub [0, 2] rfl ?_
          exact j_X10_readPart_z_141 X M hi F0 hs0 hh0 t ht01 hq0 htk hbad K W S E m i lv ops vs hz hf hrq its M35 iM35 fM35 q97_12_M35 q97_19_M35 q97_10_M35 q97_44_M35 q97_33_M35 its (by omega) siM35 lfM35 loM35 (SQ.nx hq0 (fM350 110 (by decide)) (by omega) (by omega)) tkM35 (by omega) (by omega) (by omega) (fun z => ⟨(zqM35 z).1, (zqM35 z).2.1, fun y => by
              have q := (zqM35 z).2.2
              have q2 := xxM35
              unfold LFQ at q2
              omega⟩) hit2 tzM35 (P141.mk_ hit2 xxM35 (by omega))
      · refine g_iconst (pc' := 121) dX10_readPart_120 rfl ?_
        refine g_goto (tgt := 125) dX10_readPart_121 rfl ?_
        refine g_iload_n (pc' := 126) 1 dX10_readPart_125 rfl rfl ?_
        refine g_if_eq (pc' := 129) (tgt := 137) ⟨by omega, by omega⟩ dX10_readPart_126 rfl rfl (fun c36 => ?_) (fun c36 => ?_)
        · refine g_iconst (pc' := 138) dX10_readPart_137 rfl ?_
          refine g_callVv (pc' := 141) (As := [vi 1, vi 0, vi 0]) (b := 97) (S := []) dX10_readPart_138 rfl m_X10_241 w_X10_leaf (c_X10_leaf_z X M hi 1 (by decide) 0 (by decide) 0 (by decide) F0 hs0 hh0 htk (by omega) (by omega) (by omega) hbad K W S E m i lv ops vs hz hf hrq) rfl ⟨_, _, _, rfl, rfl, rfl⟩ (by decide) (by decide) rfl (Nat.le_of_ble_eq_true rfl) (fun M38 q37 => ?_)
          obtain ⟨iM38, fM380, eM38_97_12, eM38_97_19, eM38_97_10, eM38_97_44, eM38_97_33, eM38_97_27, eM38_97_28, pM38⟩ := q37
          have fM38 : Fr (fun c => c = 97 ∨ (108 ≤ c ∧ c ≤ 111)) M M38 := Fr.tr Fr.rf fM380 fi_46
          have q97_12_M38 : (M38 97 12 = M 97 12) := eM38_97_12
          have q97_19_M38 : (M38 97 19 = M 97 19) := eM38_97_19
          have q97_10_M38 : (M38 97 10 = M 97 10) := eM38_97_10
          have q97_44_M38 : (M38 97 44 = M 97 44) := eM38_97_44
          have q97_33_M38 : (M38 97 33 = M 97 33) := eM38_97_33
          have wM38_97_12 : M38 97 12 = M 97 12 := eM38_97_12
          have wM38_97_27 : M38 97 27 = M 97 27 := eM38_97_27
          have wM38_97_28 : M38 97 28 = M 97 28 := eM38_97_28
          have tzM38 : TZM M38 K W S E m := TZM.eq hz (fM380 106 (by decide)) eM38_97_12
          obtain ⟨xxM38, zqM38, pM38⟩ := pM38
          have CM38_110 : M38 110 = M 110 := fM380 110 (by decide)
          have CM38_111 : M38 111 = M 111 := fM380 111 (by decide)
          obtain ⟨siM38, lfM38, loM38, tkM38, faM38, fbM38⟩ := pM38
          have tbM38 := tkM38.b
          refine g_sub [0, 2] rfl ?_
          exact j_X10_readPart_z_141 X M hi F0 hs0 hh0 t ht01 hq0 htk hbad K W S E m i lv ops vs hz hf hrq its M38 iM38 fM38 q97_12_M38 q97_19_M38 q97_10_M38 q97_44_M38 q97_33_M38 0 (by omega) siM38 lfM38 loM38 (SQ.nx hq0 (fM380 110 (by decide)) (by omega) (by omega)) tkM38 (by omega) (by omega) (by omega) (fun z => ⟨(zqM38 z).1, (zqM38 z).2.1, fun y => by
              have q := (zqM38 z).2.2
              have q2 := xxM38
              unfold LFQ at q2
              omega⟩) hit2 tzM38 (P141.mk_ hit2 xxM38 (by omega))
        · refine g_aload_n (pc' := 130) 2 dX10_readPart_129 rfl rfl ?_
          refine g_getL (pc' := 133) dX10_readPart_130 rfl f_X10_164 rfl rfl (fun v39 ev39 rv39 => ?_)
          refine g_l2i (pc' := 134) dX10_readPart_133 rfl ?_
          refine g_goto (tgt := 138) dX10_readPart_134 rfl ?_
          refine g_callVv (pc' := 141) (As := [vi 1, vi 0, vi v39]) (b := 97) (S := []) dX10_readPart_138 rfl m_X10_241 w_X10_leaf (c_X10_leaf_z X M hi 1 (by decide) 0 (by decide) v39 ⟨by omega, by omega⟩ F0 hs0 hh0 htk (by omega) (by omega) (by omega) hbad K W S E m i lv ops vs hz hf hrq) rfl ⟨_, _, _, rfl, rfl, rfl⟩ (by decide) (by decide) rfl (Nat.le_of_ble_eq_true rfl) (fun M41 q40 => ?_)
          obtain ⟨iM41, fM410, eM41_97_12, eM41_97_19, eM41_97_10, eM41_97_44, eM41_97_33, eM41_97_27, eM41_97_28, pM41⟩ := q40
          have fM41 : Fr (fun c => c = 97 ∨ (108 ≤ c ∧ c ≤ 111)) M M41 := Fr.tr Fr.rf fM410 fi_46
          have q97_12_M41 : (M41 97 12 = M 97 12) := eM41_97_12
          have q97_19_M41 : (M41 97 19 = M 97 19) := eM41_97_19
          have q97_10_M41 : (M41 97 10 = M 97 10) := eM41_97_10
          have q97_44_M41 : (M41 97 44 = M 97 44) := eM41_97_44
          have q97_33_M41 : (M41 97 33 = M 97 33) := eM41_97_33
          have wM41_97_12 : M41 97 12 = M 97 12 := eM41_97_12
          have wM41_97_27 : M41 97 27 = M 97 27 := eM41_97_27
          have wM41_97_28 : M41 97 28 = M 97 28 := eM41_97_28
          have tzM41 : TZM M41 K W S E m := TZM.eq hz (fM410 106 (by decide)) eM41_97_12
          obtain ⟨xxM41, zqM41, pM41⟩ := pM41
          have CM41_110 : M41 110 = M 110 := fM410 110 (by decide)
          have CM41_111 : M41 111 = M 111 := fM410 111 (by decide)
          obtain ⟨siM41, lfM41, loM41, tkM41, faM41, fbM41⟩ := pM41
          have tbM41 := tkM41.b
          refine g_sub [0, 2] rfl ?_
          exact j_X10_readPart_z_141 X M hi F0 hs0 hh0 t ht01 hq0 htk hbad K W S E m i lv ops vs hz hf hrq its M41 iM41 fM41 q97_12_M41 q97_19_M41 q97_10_M41 q97_44_M41 q97_33_M41 0 (by omega) siM41 lfM41 loM41 (SQ.nx hq0 (fM410 110 (by decide)) (by omega) (by omega)) tkM41 (by omega) (by omega) (by omega) (fun z => ⟨(zqM41 z).1, (zqM41 z).2.1, fun y => by
              have q := (zqM41 z).2.2
              have q2 := xxM41
              unfold LFQ at q2
              omega⟩) hit2 tzM41 (P141.mk_ hit2 xxM41 (by omega))
set_option maxHeartbeats 4000000 in
set_option maxRecDepth 100000 in
theorem j_X10_readPart_z_75 (X : Cx) (M : Mm) (hi : IM M) (F0 : Int) (hs0 : SI M F0) (hh0 : HI M F0 0) (t : Int) (ht01 : t = 0 ∨ t = 1) (hq0 : SQ M t) (htk : TK M) (hbad : M 97 18 = 0) (K W S E : Nat → Int) (m i : Nat) (lv : Int) (ops : List Int) (vs : List Mng) (hz : TZM M K W S E m) (hf : RFo K W S E m M i lv ops) (hrq : RLq M F0 ops vs) (its : Int) (hit : its = -1 ∨ (1 ≤ its ∧ its ≤ 4)) (his : its ≠ -1 → M 97 15 = 1) (hit2 : ITS K W i its) : G X 4 RX10 cX10_readPart 6 (some .int) (Qi (fun r M1 => IM M1 ∧ Fr (fun c => c = 97 ∨ (108 ≤ c ∧ c ≤ 111)) M M1 ∧ M1 97 12 = M 97 12 ∧ M1 97 19 = M 97 19 ∧ M1 97 10 = M 97 10 ∧ M1 97 44 = M 97 44 ∧ M1 97 33 = M 97 33 ∧ ((RFs K W S E m M1 r (stPa K W i lv ops vs)) ∧ (RLt M1 F0 (stPa K W i lv ops vs)) ∧ (0 ≤ r ∧ r ≤ 4) ∧ PS M1 F0 r ∧ LO M M1 F0 ∧ TK M1 ∧ M 97 13 ≤ M1 97 13 ∧ mz (M1 97 13) (M1 97 18) r < mz (M 97 13) (M 97 18) t))) 75 [(1, vi its), (0, vr X 97)] [] M := by
  have p12 := hi.2.2.2.1
  have sa0 := hs0.ar
  have tb0 := htk.b
  have lt0 := htk.lt
  have hf2 := hf.2.1
  have hf3 := hf.2.2.1
  have aw0 := hf.1.w hz
  have on0 := opn_nn ops
  have wo0 := htk.wo
  refine g_aload_n (pc' := 76) 1 dX10_readPart_75 rfl rfl ?_
  refine g_getI (pc' := 79) dX10_readPart_76 rfl f_X10_174 rfl rfl (fun v1 ev1 rv1 => ?_)
  refine g_iconst (pc' := 80) dX10_readPart_79 rfl ?_
  refine g_ic_ne (pc' := 83) (tgt := 98) rv1 (by decide) dX10_readPart_80 rfl rfl (fun c2 => ?_) (fun c2 => ?_)
  · refine g_iconst (pc' := 99) dX10_readPart_98 rfl ?_
    refine g_istore_n (pc' := 100) (i := 2) (L' := [(2, vi 0), (1, vi its), (0, vr X 97)]) dX10_readPart_99 rfl rfl (by decide) rfl ?_
    refine g_sub [1, 0, 2] rfl ?_
    exact j_X10_readPart_z_100 X M hi F0 hs0 hh0 t ht01 hq0 htk hbad K W S E m i lv ops vs hz hf hrq its 0 (by omega) (by omega) (by omega) hit2 (by omega)
  · refine g_aload_n (pc' := 84) 1 dX10_readPart_83 rfl rfl ?_
    refine g_getL (pc' := 87) dX10_readPart_84 rfl f_X10_164 rfl rfl (fun v3 ev3 rv3 => ?_)
    refine g_ldc2 (pc' := 90) (v := 1000) dX10_readPart_87 rfl k_X10_239 ?_
    refine g_lc_gt (pc' := 94) (tgt := 98) rv3 (by decide) dX10_readPart_90 dX10_readPart_91 rfl rfl (fun c4 => ?_) (fun c4 => ?_)
    · refine g_iconst (pc' := 99) dX10_readPart_98 rfl ?_
      refine g_istore_n (pc' := 100) (i := 2) (L' := [(2, vi 0), (1, vi its), (0, vr X 97)]) dX10_readPart_99 rfl rfl (by decide) rfl ?_
      refine g_sub [1, 0, 2] rfl ?_
      exact j_X10_readPart_z_100 X M hi F0 hs0 hh0 t ht01 hq0 htk hbad K W S E m i lv ops vs hz hf hrq its 0 (by omega) (by omega) (by omega) hit2 (by omega)
    · refine g_iconst (pc' := 95) dX10_readPart_94 rfl ?_
      refine g_goto (tgt := 99) dX10_readPart_95 rfl ?_
      refine g_istore_n (pc' := 100) (i := 2) (L' := [(2, vi 1), (1, vi its), (0, vr X 97)]) dX10_readPart_99 rfl rfl (by decide) rfl ?_
      refine g_sub [1, 0, 2] rfl ?_
      exact j_X10_readPart_z_100 X M hi F0 hs0 hh0 t ht01 hq0 htk hbad K W S E m i lv ops vs hz hf hrq its 1 (by omega) (by omega) (by omega) hit2 (by omega)
set_option maxHeartbeats 4000000 in
set_option maxRecDepth 100000 in
theorem c_X10_readPart_z (X : Cx) (M : Mm) (hi : IM M) (F0 : Int) (hs0 : SI M F0) (hh0 : HI M F0 0) (t : Int) (ht01 : t = 0 ∨ t = 1) (hq0 : SQ M t) (htk : TK M) (hbad : M 97 18 = 0) (K W S E : Nat → Int) (m i : Nat) (lv : Int) (ops : List Int) (vs : List Mng) (hz : TZM M K W S E m) (hf : RFo K W S E m M i lv ops) (hrq : RLq M F0 ops vs) : Con X 4 yX10_readPart cX10_readPart 6 (some .int) [vr X 97] M (Qi (fun r M1 => IM M1 ∧ Fr (fun c => c = 97 ∨ (108 ≤ c ∧ c ≤ 111)) M M1 ∧ M1 97 12 = M 97 12 ∧ M1 97 19 = M 97 19 ∧ M1 97 10 = M 97 10 ∧ M1 97 44 = M 97 44 ∧ M1 97 33 = M 97 33 ∧ ((RFs K W S E m M1 r (stPa K W i lv ops vs)) ∧ (RLt M1 F0 (stPa K W i lv ops vs)) ∧ (0 ≤ r ∧ r ≤ 4) ∧ PS M1 F0 r ∧ LO M M1 F0 ∧ TK M1 ∧ M 97 13 ≤ M1 97 13 ∧ mz (M1 97 13) (M1 97 18) r < mz (M 97 13) (M 97 18) t))) := by
  refine Con.ofG rfl (Nat.le_of_ble_eq_true rfl) ?_
  show G X 4 RX10 cX10_readPart 6 (some .int) (Qi (fun r M1 => IM M1 ∧ Fr (fun c => c = 97 ∨ (108 ≤ c ∧ c ≤ 111)) M M1 ∧ M1 97 12 = M 97 12 ∧ M1 97 19 = M 97 19 ∧ M1 97 10 = M 97 10 ∧ M1 97 44 = M 97 44 ∧ M1 97 33 = M 97 33 ∧ ((RFs K W S E m M1 r (stPa K W i lv ops vs)) ∧ (RLt M1 F0 (stPa K W i lv ops vs)) ∧ (0 ≤ r ∧ r ≤ 4) ∧ PS M1 F0 r ∧ LO M M1 F0 ∧ TK M1 ∧ M 97 13 ≤ M1 97 13 ∧ mz (M1 97 13) (M1 97 18) r < mz (M 97 13) (M 97 18) t))) 0 [(0, vr X 97)] [] M
  have p12 := hi.2.2.2.1
  have sa0 := hs0.ar
  have tb0 := htk.b
  have lt0 := htk.lt
  have hf2 := hf.2.1
  have hf3 := hf.2.2.1
  have aw0 := hf.1.w hz
  have on0 := opn_nn ops
  have wo0 := htk.wo
  refine g_aload_n (pc' := 1) 0 dX10_readPart_0 rfl rfl ?_
  refine g_bipush (pc' := 3) (v := 91) dX10_readPart_1 rfl (by decide) ?_
  refine g_callVip (pc' := 6) (As := [vi 91]) (b := 97) (S := []) dX10_readPart_3 rfl m_X10_221 w_X10_isSign (c_X10_isSign_x X M hi 91 (by decide)) rfl ⟨_, _, _, rfl, rfl, rfl⟩ (by decide) (by decide) rfl (Nat.le_of_ble_eq_true rfl) (fun z2 q1 => ?_)
  refine g_if_eq (pc' := 9) (tgt := 17) ⟨by omega, by omega⟩ dX10_readPart_6 rfl rfl (fun c3 => ?_) (fun c3 => ?_)
  · replace q1 := q1.resolve_left (fun h => absurd (c3.symm.trans h.1) (by decide))
    refine g_aload_n (pc' := 18) 0 dX10_readPart_17 rfl rfl ?_
    refine g_ldc2 (pc' := 21) (v := 218508) dX10_readPart_18 rfl k_X10_227 ?_
    refine g_callVip (pc' := 24) (As := [vl 218508]) (b := 97) (S := []) dX10_readPart_21 rfl m_X10_229 w_X10_isWord (c_X10_isWord_x X M hi 218508 (by decide)) rfl ⟨_, _, _, rfl, rfl, rfl⟩ (by decide) (by decide) rfl (Nat.le_of_ble_eq_true rfl) (fun z5 q4 => ?_)
    refine g_if_eq (pc' := 27) (tgt := 31) ⟨by omega, by omega⟩ dX10_readPart_24 rfl rfl (fun c6 => ?_) (fun c6 => ?_)
    · replace q4 := q4.resolve_left (fun h => absurd (c6.symm.trans h.1) (by decide))
      refine g_aload_n (pc' := 32) 0 dX10_readPart_31 rfl rfl ?_
      refine g_ldc2 (pc' := 35) (v := 632645) dX10_readPart_32 rfl k_X10_233 ?_
      refine g_callVip (pc' := 38) (As := [vl 632645]) (b := 97) (S := []) dX10_readPart_35 rfl m_X10_229 w_X10_isWord (c_X10_isWord_x X M hi 632645 (by decide)) rfl ⟨_, _, _, rfl, rfl, rfl⟩ (by decide) (by decide) rfl (Nat.le_of_ble_eq_true rfl) (fun z8 q7 => ?_)
      refine g_if_eq (pc' := 41) (tgt := 45) ⟨by omega, by omega⟩ dX10_readPart_38 rfl rfl (fun c9 => ?_) (fun c9 => ?_)
      · replace q7 := q7.resolve_left (fun h => absurd (c9.symm.trans h.1) (by decide))
        refine g_aload_n (pc' := 46) 0 dX10_readPart_45 rfl rfl ?_
        refine g_ldc2 (pc' := 49) (v := 21024389) dX10_readPart_46 rfl k_X10_235 ?_
        refine g_callVip (pc' := 52) (As := [vl 21024389]) (b := 97) (S := []) dX10_readPart_49 rfl m_X10_229 w_X10_isWord (c_X10_isWord_x X M hi 21024389 (by decide)) rfl ⟨_, _, _, rfl, rfl, rfl⟩ (by decide) (by decide) rfl (Nat.le_of_ble_eq_true rfl) (fun z11 q10 => ?_)
        refine g_if_eq (pc' := 55) (tgt := 59) ⟨by omega, by omega⟩ dX10_readPart_52 rfl rfl (fun c12 => ?_) (fun c12 => ?_)
        · replace q10 := q10.resolve_left (fun h => absurd (c12.symm.trans h.1) (by decide))
          refine g_aload_n (pc' := 60) 0 dX10_readPart_59 rfl rfl ?_
          refine g_ldc2 (pc' := 63) (v := 146885) dX10_readPart_60 rfl k_X10_237 ?_
          refine g_callVip (pc' := 66) (As := [vl 146885]) (b := 97) (S := []) dX10_readPart_63 rfl m_X10_229 w_X10_isWord (c_X10_isWord_x X M hi 146885 (by decide)) rfl ⟨_, _, _, rfl, rfl, rfl⟩ (by decide) (by decide) rfl (Nat.le_of_ble_eq_true rfl) (fun z14 q13 => ?_)
          refine g_if_eq (pc' := 69) (tgt := 73) ⟨by omega, by omega⟩ dX10_readPart_66 rfl rfl (fun c15 => ?_) (fun c15 => ?_)
          · replace q13 := q13.resolve_left (fun h => absurd (c15.symm.trans h.1) (by decide))
            refine g_iconst (pc' := 74) dX10_readPart_73 rfl ?_
            refine g_istore_n (pc' := 75) (i := 1) (L' := [(1, vi (-1)), (0, vr X 97)]) dX10_readPart_74 rfl rfl (by decide) rfl ?_
            refine g_sub [0, 1] rfl ?_
            exact j_X10_readPart_z_75 X M hi F0 hs0 hh0 t ht01 hq0 htk hbad K W S E m i lv ops vs hz hf hrq (-1) (by omega) (by omega) (by unfold ITS; omega)
          · replace q13 := q13.resolve_right (fun h => c15 h.1)
            refine g_iconst (pc' := 70) dX10_readPart_69 rfl ?_
            refine g_goto (tgt := 74) dX10_readPart_70 rfl ?_
            refine g_istore_n (pc' := 75) (i := 1) (L' := [(1, vi 4), (0, vr X 97)]) dX10_readPart_74 rfl rfl (by decide) rfl ?_
            refine g_sub [0, 1] rfl ?_
            exact j_X10_readPart_z_75 X M hi F0 hs0 hh0 t ht01 hq0 htk hbad K W S E m i lv ops vs hz hf hrq 4 (by omega) (by omega) (by unfold ITS; omega)
        · replace q10 := q10.resolve_right (fun h => c12 h.1)
          refine g_iconst (pc' := 56) dX10_readPart_55 rfl ?_
          refine g_goto (tgt := 74) dX10_readPart_56 rfl ?_
          refine g_istore_n (pc' := 75) (i := 1) (L' := [(1, vi 3), (0, vr X 97)]) dX10_readPart_74 rfl rfl (by decide) rfl ?_
          refine g_sub [0, 1] rfl ?_
          exact j_X10_readPart_z_75 X M hi F0 hs0 hh0 t ht01 hq0 htk hbad K W S E m i lv ops vs hz hf hrq 3 (by omega) (by omega) (by unfold ITS; omega)
      · replace q7 := q7.resolve_right (fun h => c9 h.1)
        refine g_iconst (pc' := 42) dX10_readPart_41 rfl ?_
        refine g_goto (tgt := 74) dX10_readPart_42 rfl ?_
        refine g_istore_n (pc' := 75) (i := 1) (L' := [(1, vi 2), (0, vr X 97)]) dX10_readPart_74 rfl rfl (by decide) rfl ?_
        refine g_sub [0, 1] rfl ?_
        exact j_X10_readPart_z_75 X M hi F0 hs0 hh0 t ht01 hq0 htk hbad K W S E m i lv ops vs hz hf hrq 2 (by omega) (by omega) (by unfold ITS; omega)
    · replace q4 := q4.resolve_right (fun h => c6 h.1)
      refine g_iconst (pc' := 28) dX10_readPart_27 rfl ?_
      refine g_goto (tgt := 74) dX10_readPart_28 rfl ?_
      refine g_istore_n (pc' := 75) (i := 1) (L' := [(1, vi 1), (0, vr X 97)]) dX10_readPart_74 rfl rfl (by decide) rfl ?_
      refine g_sub [0, 1] rfl ?_
      exact j_X10_readPart_z_75 X M hi F0 hs0 hh0 t ht01 hq0 htk hbad K W S E m i lv ops vs hz hf hrq 1 (by omega) (by omega) (by unfold ITS; omega)
  · replace q1 := q1.resolve_right (fun h => c3 h.1)
    refine g_aload_n (pc' := 10) 0 dX10_readPart_9 rfl rfl ?_
    refine g_bipush (pc' := 12) (v := 31) dX10_readPart_10 rfl (by decide) ?_
    refine g_callVv (pc' := 15) (As := [vi 31]) (b := 97) (S := []) dX10_readPart_12 rfl m_X10_224 w_X10_openBracket (c_X10_openBracket_z X M hi 31 (by decide) F0 hs0 hh0 t hq0 htk (by omega) (by omega) hbad K W S E m i lv ops vs hz hf hrq (fun z => absurd z (by decide))) rfl ⟨_, _, _, rfl, rfl, rfl⟩ (by decide) (by decide) rfl (Nat.le_of_ble_eq_true rfl) (fun M17 q16 => ?_)
    obtain ⟨iM17, fM170, eM17_97_12, eM17_97_19, eM17_97_10, eM17_97_44, eM17_97_33, pM17⟩ := q16
    have fM17 : Fr (fun c => c = 97 ∨ (108 ≤ c ∧ c ≤ 111)) M M17 := Fr.tr Fr.rf fM170 fi_47
    have q97_12_M17 : (M17 97 12 = M 97 12) := eM17_97_12
    have q97_19_M17 : (M17 97 19 = M 97 19) := eM17_97_19
    have q97_10_M17 : (M17 97 10 = M 97 10) := eM17_97_10
    have q97_44_M17 : (M17 97 44 = M 97 44) := eM17_97_44
    have q97_33_M17 : (M17 97 33 = M 97 33) := eM17_97_33
    have wM17_97_12 : M17 97 12 = M 97 12 := eM17_97_12
    have tzM17 : TZM M17 K W S E m := TZM.eq hz (fM170 106 (by decide)) eM17_97_12
    obtain ⟨xxM17, zqM17, pM17⟩ := pM17
    have CM17_108 : M17 108 = M 108 := fM170 108 (by decide)
    have CM17_109 : M17 109 = M 109 := fM170 109 (by decide)
    obtain ⟨psM17, loM17, tkM17, faM17, fbM17⟩ := pM17
    have tbM17 := tkM17.b
    refine g_iconst (pc' := 16) dX10_readPart_15 rfl ?_
    refine g_ireturn dX10_readPart_16 ?_
    exact ⟨iM17, fM17, q97_12_M17, q97_19_M17, q97_10_M17, q97_44_M17, q97_33_M17, stPa_br (by omega) xxM17, (RLt.br (by omega) xxM17 zqM17), ⟨by omega, by omega⟩, (PS.t_ psM17 (by omega)), loM17, tkM17, by omega, (mz_lt hbad (by omega) (by omega) (by omega))⟩
set_option maxHeartbeats 4000000 in
set_option maxRecDepth 100000 in
theorem c_X10_readPlain_z (X : Cx) (M : Mm) (hi : IM M) (F0 : Int) (hs0 : SI M F0) (hh0 : HI M F0 0) (hq0 : SQ M 0) (htk : TK M) (hbad : M 97 18 = 0) (K W S E : Nat → Int) (m i : Nat) (lv : Int) (ops : List Int) (vs : List Mng) (hz : TZM M K W S E m) (hf : RFo K W S E m M i lv ops) (hrq : RLq M F0 ops vs) (hnt : NTo ops) : Con X 5 yX10_readPlain cX10_readPlain 1 (some .int) [vr X 97] M (Qi (fun r M1 => IM M1 ∧ Fr (fun c => c = 97 ∨ (108 ≤ c ∧ c ≤ 111)) M M1 ∧ M1 97 12 = M 97 12 ∧ M1 97 19 = M 97 19 ∧ M1 97 10 = M 97 10 ∧ M1 97 44 = M 97 44 ∧ M1 97 33 = M 97 33 ∧ ((RFs K W S E m M1 r (stPl K W i lv ops vs)) ∧ (RLt M1 F0 (stPl K W i lv ops vs)) ∧ (0 ≤ r ∧ r ≤ 4) ∧ PS M1 F0 r ∧ LO M M1 F0 ∧ TK M1 ∧ M 97 13 ≤ M1 97 13 ∧ mz (M1 97 13) (M1 97 18) r < mz (M 97 13) (M 97 18) 0))) := by
  refine Con.ofG rfl (Nat.le_of_ble_eq_true rfl) ?_
  show G X 5 RX10 cX10_readPlain 1 (some .int) (Qi (fun r M1 => IM M1 ∧ Fr (fun c => c = 97 ∨ (108 ≤ c ∧ c ≤ 111)) M M1 ∧ M1 97 12 = M 97 12 ∧ M1 97 19 = M 97 19 ∧ M1 97 10 = M 97 10 ∧ M1 97 44 = M 97 44 ∧ M1 97 33 = M 97 33 ∧ ((RFs K W S E m M1 r (stPl K W i lv ops vs)) ∧ (RLt M1 F0 (stPl K W i lv ops vs)) ∧ (0 ≤ r ∧ r ≤ 4) ∧ PS M1 F0 r ∧ LO M M1 F0 ∧ TK M1 ∧ M 97 13 ≤ M1 97 13 ∧ mz (M1 97 13) (M1 97 18) r < mz (M 97 13) (M 97 18) 0))) 0 [(0, vr X 97)] [] M
  have p12 := hi.2.2.2.1
  have sa0 := hs0.ar
  have tb0 := htk.b
  have lt0 := htk.lt
  have hf2 := hf.2.1
  have hf3 := hf.2.2.1
  have aw0 := hf.1.w hz
  have on0 := opn_nn ops
  refine g_aload_n (pc' := 1) 0 dX10_readPlain_0 rfl rfl ?_
  refine g_ldc2 (pc' := 4) (v := 14836) dX10_readPlain_1 rfl k_X10_248 ?_
  refine g_callVip (pc' := 7) (As := [vl 14836]) (b := 97) (S := []) dX10_readPlain_4 rfl m_X10_229 w_X10_isWord (c_X10_isWord_x X M hi 14836 (by decide)) rfl ⟨_, _, _, rfl, rfl, rfl⟩ (by decide) (by decide) rfl (Nat.le_of_ble_eq_true rfl) (fun z2 q1 => ?_)
  refine g_if_eq (pc' := 10) (tgt := 23) ⟨by omega, by omega⟩ dX10_readPlain_7 rfl rfl (fun c3 => ?_) (fun c3 => ?_)
  · replace q1 := q1.resolve_left (fun h => absurd (c3.symm.trans h.1) (by decide))
    refine g_aload_n (pc' := 24) 0 dX10_readPlain_23 rfl rfl ?_
    refine g_bipush (pc' := 26) (v := 40) dX10_readPlain_24 rfl (by decide) ?_
    refine g_callVip (pc' := 29) (As := [vi 40]) (b := 97) (S := []) dX10_readPlain_26 rfl m_X10_221 w_X10_isSign (c_X10_isSign_x X M hi 40 (by decide)) rfl ⟨_, _, _, rfl, rfl, rfl⟩ (by decide) (by decide) rfl (Nat.le_of_ble_eq_true rfl) (fun z5 q4 => ?_)
    refine g_if_eq (pc' := 32) (tgt := 40) ⟨by omega, by omega⟩ dX10_readPlain_29 rfl rfl (fun c6 => ?_) (fun c6 => ?_)
    · replace q4 := q4.resolve_left (fun h => absurd (c6.symm.trans h.1) (by decide))
      refine g_aload_n (pc' := 41) 0 dX10_readPlain_40 rfl rfl ?_
      refine g_callVi (pc' := 44) (As := []) (b := 97) (S := []) dX10_readPlain_41 rfl m_X10_250 w_X10_readPart (c_X10_readPart_z X M hi F0 hs0 hh0 0 (by omega) hq0 htk hbad K W S E m i lv ops vs hz hf hrq) rfl ⟨_, _, _, rfl, rfl, rfl⟩ (by decide) (by decide) rfl (Nat.le_of_ble_eq_true rfl) (fun z8 M9 q7 => ?_)
      obtain ⟨iM9, fM90, eM9_97_12, eM9_97_19, eM9_97_10, eM9_97_44, eM9_97_33, pM9⟩ := q7
      have fM9 : Fr (fun c => c = 97 ∨ (108 ≤ c ∧ c ≤ 111)) M M9 := Fr.tr Fr.rf fM90 (fun _ z => z)
      have q97_12_M9 : (M9 97 12 = M 97 12) := eM9_97_12
      have q97_19_M9 : (M9 97 19 = M 97 19) := eM9_97_19
      have q97_10_M9 : (M9 97 10 = M 97 10) := eM9_97_10
      have q97_44_M9 : (M9 97 44 = M 97 44) := eM9_97_44
      have q97_33_M9 : (M9 97 33 = M 97 33) := eM9_97_33
      have wM9_97_12 : M9 97 12 = M 97 12 := eM9_97_12
      have tzM9 : TZM M9 K W S E m := TZM.eq hz (fM90 106 (by decide)) eM9_97_12
      obtain ⟨xxM9, zqM9, pM9⟩ := pM9
      obtain ⟨rbM9, psM9, loM9, tkM9, faM9, mzM9⟩ := pM9
      have tbM9 := tkM9.b
      refine g_ireturn dX10_readPlain_44 ?_
      exact ⟨iM9, fM9, q97_12_M9, q97_19_M9, q97_10_M9, q97_44_M9, q97_33_M9, (by rw [stPl_pa (by omega) (by omega)]; exact xxM9), (by rw [stPl_pa (by omega) (by omega)]; exact zqM9), ⟨by omega, by omega⟩, psM9, loM9, tkM9, by omega, mzM9⟩
    · replace q4 := q4.resolve_right (fun h => c6 h.1)
      refine g_aload_n (pc' := 33) 0 dX10_readPlain_32 rfl rfl ?_
      refine g_bipush (pc' := 35) (v := 30) dX10_readPlain_33 rfl (by decide) ?_
      refine g_callVv (pc' := 38) (As := [vi 30]) (b := 97) (S := []) dX10_readPlain_35 rfl m_X10_224 w_X10_openBracket (c_X10_openBracket_z X M hi 30 (by decide) F0 hs0 hh0 0 hq0 htk (by omega) (by omega) hbad K W S E m i lv ops vs hz hf hrq (fun _ => hnt)) rfl ⟨_, _, _, rfl, rfl, rfl⟩ (by decide) (by decide) rfl (Nat.le_of_ble_eq_true rfl) (fun M11 q10 => ?_)
      obtain ⟨iM11, fM110, eM11_97_12, eM11_97_19, eM11_97_10, eM11_97_44, eM11_97_33, pM11⟩ := q10
      have fM11 : Fr (fun c => c = 97 ∨ (108 ≤ c ∧ c ≤ 111)) M M11 := Fr.tr Fr.rf fM110 fi_47
      have q97_12_M11 : (M11 97 12 = M 97 12) := eM11_97_12
      have q97_19_M11 : (M11 97 19 = M 97 19) := eM11_97_19
      have q97_10_M11 : (M11 97 10 = M 97 10) := eM11_97_10
      have q97_44_M11 : (M11 97 44 = M 97 44) := eM11_97_44
      have q97_33_M11 : (M11 97 33 = M 97 33) := eM11_97_33
      have wM11_97_12 : M11 97 12 = M 97 12 := eM11_97_12
      have tzM11 : TZM M11 K W S E m := TZM.eq hz (fM110 106 (by decide)) eM11_97_12
      obtain ⟨xxM11, zqM11, pM11⟩ := pM11
      have CM11_108 : M11 108 = M 108 := fM110 108 (by decide)
      have CM11_109 : M11 109 = M 109 := fM110 109 (by decide)
      obtain ⟨psM11, loM11, tkM11, faM11, fbM11⟩ := pM11
      have tbM11 := tkM11.b
      refine g_iconst (pc' := 39) dX10_readPlain_38 rfl ?_
      refine g_ireturn dX10_readPlain_39 ?_
      exact ⟨iM11, fM11, q97_12_M11, q97_19_M11, q97_10_M11, q97_44_M11, q97_33_M11, stPl_br (by omega) (by omega) xxM11, (RLt.br0 (by omega) (by omega) xxM11 zqM11), ⟨by omega, by omega⟩, (PS.t_ psM11 (by omega)), loM11, tkM11, by omega, (mz_lt hbad (by omega) (by omega) (by omega))⟩
  · replace q1 := q1.resolve_right (fun h => c3 h.1)
    refine g_aload_n (pc' := 11) 0 dX10_readPlain_10 rfl rfl ?_
    refine g_bipush (pc' := 13) (v := 27) dX10_readPlain_11 rfl (by decide) ?_
    refine g_iconst (pc' := 14) dX10_readPlain_13 rfl ?_
    refine g_callVv (pc' := 17) (As := [vi 27, vi 0]) (b := 97) (S := []) dX10_readPlain_14 rfl m_X10_215 w_X10_push (c_X10_push_x X M hi 27 (by decide) 0 (by decide) (by omega)) rfl ⟨_, _, _, rfl, rfl, rfl⟩ (by decide) (by decide) rfl (Nat.le_of_ble_eq_true rfl) (fun M13 q12 => ?_)
    obtain ⟨iM13, fM130, eM13_97_12, eM13_97_19, eM13_97_21, eM13_97_24, eM13_97_28, eM13_97_10, eM13_97_44, eM13_97_33, eM13_97_13, eM13_97_14, eM13_97_15, eM13_97_16, eM13_97_18, eM13_97_17, pM13⟩ := q12
    have fM13 : Fr (fun c => c = 97 ∨ (108 ≤ c ∧ c ≤ 111)) M M13 := Fr.tr Fr.rf fM130 fi_47
    have q97_12_M13 : (M13 97 12 = M 97 12) := eM13_97_12
    have q97_19_M13 : (M13 97 19 = M 97 19) := eM13_97_19
    have q97_10_M13 : (M13 97 10 = M 97 10) := eM13_97_10
    have q97_44_M13 : (M13 97 44 = M 97 44) := eM13_97_44
    have q97_33_M13 : (M13 97 33 = M 97 33) := eM13_97_33
    have wM13_97_12 : M13 97 12 = M 97 12 := eM13_97_12
    have wM13_97_13 : M13 97 13 = M 97 13 := eM13_97_13
    have wM13_97_14 : M13 97 14 = M 97 14 := eM13_97_14
    have wM13_97_15 : M13 97 15 = M 97 15 := eM13_97_15
    have wM13_97_16 : M13 97 16 = M 97 16 := eM13_97_16
    have wM13_97_17 : M13 97 17 = M 97 17 := eM13_97_17
    have wM13_97_18 : M13 97 18 = M 97 18 := eM13_97_18
    have wM13_97_21 : M13 97 21 = M 97 21 := eM13_97_21
    have wM13_97_24 : M13 97 24 = M 97 24 := eM13_97_24
    have wM13_97_28 : M13 97 28 = M 97 28 := eM13_97_28
    have tzM13 : TZM M13 K W S E m := TZM.eq hz (fM130 106 (by decide)) eM13_97_12
    have CM13_108 : M13 108 = M 108 := fM130 108 (by decide)
    have CM13_109 : M13 109 = M 109 := fM130 109 (by decide)
    have CM13_110 : M13 110 = ms (M 110) (M 97 27).toNat 27 := by rw [pM13.1, show M 97 27 = M 97 27 by omega]
    have CM13_111 : M13 111 = ms (M 111) (M 97 27).toNat 0 := by rw [pM13.2.1, show M 97 27 = M 97 27 by omega]
    have tkM13 : TK M13 := TK.eq htk eM13_97_12 eM13_97_13 eM13_97_14 eM13_97_15 eM13_97_16
    have ppM13 := pM13.2.2
    clear pM13
    refine g_aload_n (pc' := 18) 0 dX10_readPlain_17 rfl rfl ?_
    refine g_callVv (pc' := 21) (As := []) (b := 97) (S := []) dX10_readPlain_18 rfl m_X10_158 w_X10_next (c_X10_next_x X M13 iM13 (by omega)) rfl ⟨_, _, _, rfl, rfl, rfl⟩ (by decide) (by decide) rfl (Nat.le_of_ble_eq_true rfl) (fun M15 q14 => ?_)
    obtain ⟨iM15, fM150, eM15_97_12, eM15_97_19, eM15_97_21, eM15_97_24, eM15_97_27, eM15_97_28, eM15_97_10, eM15_97_44, eM15_97_33, eM15_97_18, eM15_97_17, pM15⟩ := q14
    have fM15 : Fr (fun c => c = 97 ∨ (108 ≤ c ∧ c ≤ 111)) M M15 := Fr.tr fM13 fM150 fi_45
    have q97_12_M15 : (M15 97 12 = M 97 12) := eM15_97_12.trans q97_12_M13
    have q97_19_M15 : (M15 97 19 = M 97 19) := eM15_97_19.trans q97_19_M13
    have q97_10_M15 : (M15 97 10 = M 97 10) := eM15_97_10.trans q97_10_M13
    have q97_44_M15 : (M15 97 44 = M 97 44) := eM15_97_44.trans q97_44_M13
    have q97_33_M15 : (M15 97 33 = M 97 33) := eM15_97_33.trans q97_33_M13
    have wM15_97_12 : M15 97 12 = M13 97 12 := eM15_97_12
    have wM15_97_17 : M15 97 17 = M13 97 17 := eM15_97_17
    have wM15_97_18 : M15 97 18 = M13 97 18 := eM15_97_18
    have wM15_97_21 : M15 97 21 = M13 97 21 := eM15_97_21
    have wM15_97_24 : M15 97 24 = M13 97 24 := eM15_97_24
    have wM15_97_27 : M15 97 27 = M13 97 27 := eM15_97_27
    have wM15_97_28 : M15 97 28 = M13 97 28 := eM15_97_28
    have tzM15 : TZM M15 K W S E m := TZM.eq tzM13 (fM150 106 (by decide)) eM15_97_12
    obtain ⟨xxM15, pM15⟩ := pM15
    have atM15 : AT K W S E m M15 (i + 1) := AT.nx tzM13 (AT.eq hf.1 (by omega) (by omega) (by omega) (by omega) (by omega)) (by omega) xxM15 (by omega)
    have CM15_108 : M15 108 = M 108 := (fM150 108 (by decide)).trans CM13_108
    have CM15_109 : M15 109 = M 109 := (fM150 109 (by decide)).trans CM13_109
    have CM15_110 : M15 110 = ms (M 110) (M 97 27).toNat 27 := (fM150 110 (by decide)).trans CM13_110
    have CM15_111 : M15 111 = ms (M 111) (M 97 27).toNat 0 := (fM150 111 (by decide)).trans CM13_111
    obtain ⟨aM15p, kM15p⟩ := pM15
    have tkM15 : TK M15 := kM15p
    clear kM15p
    have tbM15 := tkM15.b
    refine g_iconst (pc' := 22) dX10_readPlain_21 rfl ?_
    refine g_ireturn dX10_readPlain_22 ?_
    exact ⟨iM15, fM15, q97_12_M15, q97_19_M15, q97_10_M15, q97_44_M15, q97_33_M15, RFs.ok (by omega) (stPl_not (by omega)) ⟨atM15, by omega, by rw [opn_c (by omega)]; omega, PIL.push hf.2.2.2 CM15_110 (by omega)⟩, (RLt.p (stPl_not (by omega)) (Or.inl rfl) (RLq.push hrq hf.2.2.2 (by omega) CM15_108 CM15_109 CM15_111 (by omega) (Or.inr ⟨Or.inl rfl, hnt⟩)) (fun _ => show (27 : Int) ≤ 27 by decide)), ⟨by omega, by omega⟩, (PS.mk_ (q := 0) (SI.push hs0 (by omega) (by omega) CM15_110 CM15_111 (by omega) (by omega) (by omega) (by omega)) (HI.push hs0 hh0 (by omega) CM15_108 CM15_109 CM15_110 CM15_111 (by omega) (by omega)) (SQ.push hq0 CM15_110 (by omega) (by omega) (by omega) (by omega)) (by omega)), (LO.eq CM15_108 CM15_109), tkM15, by omega, (mz_lt hbad (by omega) (by omega) (by omega))⟩
