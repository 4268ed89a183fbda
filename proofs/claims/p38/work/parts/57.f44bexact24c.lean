set_option maxHeartbeats 4000000 in
set_option maxRecDepth 100000 in
theorem j_X10_behindTest_z_22 (X : Cx) (M : Mm) (hi : IM M) (F0 : Int) (hs0 : SI M F0) (hh0 : HI M F0 1) (hq0 : SQ M 2) (htk : TK M) (hbad : M 97 18 = 0) (K W S E : Nat → Int) (m i : Nat) (lv : Int) (ops : List Int) (vs : List Mng) (hz : TZM M K W S E m) (hf : RFo K W S E m M i lv ops) (hrq : RLz M F0 ops vs) (ht2 : T2s ops vs) (an : Int) (han : an = 0 ∨ an = 1) (hso : M 97 15 = 1) (han2 : (an = 1 ∧ isWd K W i 1476) ∨ (an = 0 ∧ isWd K W i 498)) : G X 3 RX10 cX10_behindTest 2 (some .int) (Qi (fun r M1 => IM M1 ∧ Fr (fun c => c = 97 ∨ (108 ≤ c ∧ c ≤ 111)) M M1 ∧ M1 97 12 = M 97 12 ∧ M1 97 19 = M 97 19 ∧ M1 97 10 = M 97 10 ∧ M1 97 44 = M 97 44 ∧ M1 97 33 = M 97 33 ∧ ((RFs K W S E m M1 r (stTe K W i lv ops vs)) ∧ (RLt M1 F0 (stTe K W i lv ops vs)) ∧ (0 ≤ r ∧ r ≤ 4) ∧ PS M1 F0 r ∧ LO M M1 F0 ∧ TK M1 ∧ M 97 13 ≤ M1 97 13 ∧ mz (M1 97 13) (M1 97 18) r < mz (M 97 13) (M 97 18) 2))) 22 [(1, vi an), (0, vr X 97)] [] M := by
  have p12 := hi.2.2.2.1
  have sa0 := hs0.ar
  have tb0 := htk.b
  have lt0 := htk.lt
  have hf2 := hf.2.1
  have hf3 := hf.2.2.1
  have aw0 := hf.1.w hz
  have on0 := opn_nn ops
  rcases (show an = 0 ∨ an = 1 by omega) with rfl | rfl
  · refine g_aload_n (pc' := 23) 1 dX10_behindTest_22 rfl rfl ?_
    refine g_iload_n (pc' := 24) 0 dX10_behindTest_23 rfl rfl ?_
    refine g_if_eq (pc' := 27) (tgt := 31) (by decide) dX10_behindTest_24 rfl rfl (fun c1 => ?_) (fun c1 => ?_)
    · refine g_iconst (pc' := 32) dX10_behindTest_31 rfl ?_
      refine g_callVv (pc' := 35) (As := [vi 1]) (b := 97) (S := []) dX10_behindTest_32 rfl m_X10_254 w_X10_settle (c_X10_settle_z X M hi 1 (by decide) F0 hs0 (by omega)) rfl ⟨_, _, _, rfl, rfl, rfl⟩ (by decide) (by decide) rfl (Nat.le_of_ble_eq_true rfl) (fun M3 q2 => ?_)
      obtain ⟨iM3, fM30, eM3_97_10, eM3_97_44, eM3_97_33, eM3_97_12, eM3_97_19, eM3_97_24, eM3_97_28, eM3_97_13, eM3_97_14, eM3_97_15, eM3_97_16, eM3_97_18, eM3_97_17, pM3⟩ := q2
      have fM3 : Fr (fun c => c = 97 ∨ (108 ≤ c ∧ c ≤ 111)) M M3 := Fr.tr Fr.rf fM30 fi_46
      have q97_12_M3 : (M3 97 12 = M 97 12) := eM3_97_12
      have q97_19_M3 : (M3 97 19 = M 97 19) := eM3_97_19
      have q97_10_M3 : (M3 97 10 = M 97 10) := eM3_97_10
      have q97_44_M3 : (M3 97 44 = M 97 44) := eM3_97_44
      have q97_33_M3 : (M3 97 33 = M 97 33) := eM3_97_33
      have wM3_97_12 : M3 97 12 = M 97 12 := eM3_97_12
      have wM3_97_13 : M3 97 13 = M 97 13 := eM3_97_13
      have wM3_97_14 : M3 97 14 = M 97 14 := eM3_97_14
      have wM3_97_15 : M3 97 15 = M 97 15 := eM3_97_15
      have wM3_97_16 : M3 97 16 = M 97 16 := eM3_97_16
      have wM3_97_17 : M3 97 17 = M 97 17 := eM3_97_17
      have wM3_97_18 : M3 97 18 = M 97 18 := eM3_97_18
      have wM3_97_24 : M3 97 24 = M 97 24 := eM3_97_24
      have wM3_97_28 : M3 97 28 = M 97 28 := eM3_97_28
      have tzM3 : TZM M3 K W S E m := TZM.eq hz (fM30 106 (by decide)) eM3_97_12
      have CM3_110 : M3 110 = M 110 := fM30 110 (by decide)
      have CM3_111 : M3 111 = M 111 := fM30 111 (by decide)
      have tkM3 : TK M3 := TK.eq htk eM3_97_12 eM3_97_13 eM3_97_14 eM3_97_15 eM3_97_16
      obtain ⟨siM3, htM3, loM30, stM3, sxM3, rfM3⟩ := pM3
      have spM3 := stM3.1
      have saM3 := siM3.ar
      have loM3 : LO M M3 F0 := LO.tr (LO.rf _ _) loM30
      have hiM3 : HI M3 F0 1 := htM3 hh0
      have sqM3 : SQ M3 2 := SQ.nx hq0 (fM30 110 (by decide)) (by omega) (by omega)
      refine g_aload_n (pc' := 36) 1 dX10_behindTest_35 rfl rfl ?_
      refine g_iload_n (pc' := 37) 0 dX10_behindTest_36 rfl rfl ?_
      refine g_if_eq (pc' := 40) (tgt := 45) (by decide) dX10_behindTest_37 rfl rfl (fun c4 => ?_) (fun c4 => ?_)
      · refine g_bipush (pc' := 47) (v := 29) dX10_behindTest_45 rfl (by decide) ?_
        refine g_aload_n (pc' := 48) 1 dX10_behindTest_47 rfl rfl ?_
        refine g_getI (pc' := 51) dX10_behindTest_48 rfl f_X10_191 rfl rfl (fun v5 ev5 rv5 => ?_)
        refine g_callVv (pc' := 54) (As := [vi 29, vi v5]) (b := 97) (S := []) dX10_behindTest_51 rfl m_X10_215 w_X10_push (c_X10_push_x X M3 iM3 29 (by decide) v5 rv5 (by omega)) rfl ⟨_, _, _, rfl, rfl, rfl⟩ (by decide) (by decide) rfl (Nat.le_of_ble_eq_true rfl) (fun M7 q6 => ?_)
        obtain ⟨iM7, fM70, eM7_97_12, eM7_97_19, eM7_97_21, eM7_97_24, eM7_97_28, eM7_97_10, eM7_97_44, eM7_97_33, eM7_97_13, eM7_97_14, eM7_97_15, eM7_97_16, eM7_97_18, eM7_97_17, pM7⟩ := q6
        have fM7 : Fr (fun c => c = 97 ∨ (108 ≤ c ∧ c ≤ 111)) M M7 := Fr.tr fM3 fM70 fi_47
        have q97_12_M7 : (M7 97 12 = M 97 12) := eM7_97_12.trans q97_12_M3
        have q97_19_M7 : (M7 97 19 = M 97 19) := eM7_97_19.trans q97_19_M3
        have q97_10_M7 : (M7 97 10 = M 97 10) := eM7_97_10.trans q97_10_M3
        have q97_44_M7 : (M7 97 44 = M 97 44) := eM7_97_44.trans q97_44_M3
        have q97_33_M7 : (M7 97 33 = M 97 33) := eM7_97_33.trans q97_33_M3
        have wM7_97_12 : M7 97 12 = M3 97 12 := eM7_97_12
        have wM7_97_13 : M7 97 13 = M3 97 13 := eM7_97_13
        have wM7_97_14 : M7 97 14 = M3 97 14 := eM7_97_14
        have wM7_97_15 : M7 97 15 = M3 97 15 := eM7_97_15
        have wM7_97_16 : M7 97 16 = M3 97 16 := eM7_97_16
        have wM7_97_17 : M7 97 17 = M3 97 17 := eM7_97_17
        have wM7_97_18 : M7 97 18 = M3 97 18 := eM7_97_18
        have wM7_97_21 : M7 97 21 = M3 97 21 := eM7_97_21
        have wM7_97_24 : M7 97 24 = M3 97 24 := eM7_97_24
        have wM7_97_28 : M7 97 28 = M3 97 28 := eM7_97_28
        have tzM7 : TZM M7 K W S E m := TZM.eq tzM3 (fM70 106 (by decide)) eM7_97_12
        have CM7_108 : M7 108 = M3 108 := fM70 108 (by decide)
        have CM7_109 : M7 109 = M3 109 := fM70 109 (by decide)
        have CM7_110 : M7 110 = ms (M3 110) (M3 97 27).toNat 29 := by rw [pM7.1, show M3 97 27 = M3 97 27 by omega]
        have CM7_111 : M7 111 = ms (M3 111) (M3 97 27).toNat v5 := by rw [pM7.2.1, show M3 97 27 = M3 97 27 by omega]
        have tkM7 : TK M7 := TK.eq tkM3 eM7_97_12 eM7_97_13 eM7_97_14 eM7_97_15 eM7_97_16
        have ppM7 := pM7.2.2
        clear pM7
        refine g_aload_n (pc' := 55) 1 dX10_behindTest_54 rfl rfl ?_
        refine g_iload_n (pc' := 56) 0 dX10_behindTest_55 rfl rfl ?_
        refine g_if_eq (pc' := 59) (tgt := 64) (by decide) dX10_behindTest_56 rfl rfl (fun c8 => ?_) (fun c8 => ?_)
        · refine g_bipush (pc' := 66) (v := 29) dX10_behindTest_64 rfl (by decide) ?_
          refine g_iconst (pc' := 67) dX10_behindTest_66 rfl ?_
          refine g_callVv (pc' := 70) (As := [vi 29, vi 0]) (b := 97) (S := []) dX10_behindTest_67 rfl m_X10_200 w_X10_emit (c_X10_emit_x X M7 iM7 29 (by decide) 0 (by decide) (by omega)) rfl ⟨_, _, _, rfl, rfl, rfl⟩ (by decide) (by decide) rfl (Nat.le_of_ble_eq_true rfl) (fun M10 q9 => ?_)
          obtain ⟨iM10, fM100, eM10_97_12, eM10_97_19, eM10_97_24, eM10_97_27, eM10_97_28, eM10_97_10, eM10_97_44, eM10_97_33, eM10_97_13, eM10_97_14, eM10_97_15, eM10_97_16, eM10_97_18, eM10_97_17, pM10⟩ := q9
          have fM10 : Fr (fun c => c = 97 ∨ (108 ≤ c ∧ c ≤ 111)) M M10 := Fr.tr fM7 fM100 fi_46
          have q97_12_M10 : (M10 97 12 = M 97 12) := eM10_97_12.trans q97_12_M7
          have q97_19_M10 : (M10 97 19 = M 97 19) := eM10_97_19.trans q97_19_M7
          have q97_10_M10 : (M10 97 10 = M 97 10) := eM10_97_10.trans q97_10_M7
          have q97_44_M10 : (M10 97 44 = M 97 44) := eM10_97_44.trans q97_44_M7
          have q97_33_M10 : (M10 97 33 = M 97 33) := eM10_97_33.trans q97_33_M7
          have wM10_97_12 : M10 97 12 = M7 97 12 := eM10_97_12
          have wM10_97_13 : M10 97 13 = M7 97 13 := eM10_97_13
          have wM10_97_14 : M10 97 14 = M7 97 14 := eM10_97_14
          have wM10_97_15 : M10 97 15 = M7 97 15 := eM10_97_15
          have wM10_97_16 : M10 97 16 = M7 97 16 := eM10_97_16
          have wM10_97_17 : M10 97 17 = M7 97 17 := eM10_97_17
          have wM10_97_18 : M10 97 18 = M7 97 18 := eM10_97_18
          have wM10_97_24 : M10 97 24 = M7 97 24 := eM10_97_24
          have wM10_97_27 : M10 97 27 = M7 97 27 := eM10_97_27
          have wM10_97_28 : M10 97 28 = M7 97 28 := eM10_97_28
          have tzM10 : TZM M10 K W S E m := TZM.eq tzM7 (fM100 106 (by decide)) eM10_97_12
          have CM10_108 : M10 108 = ms (M3 108) (M3 97 21).toNat 29 := by rw [pM10.1, CM7_108, show M7 97 21 = M3 97 21 by omega]
          have CM10_109 : M10 109 = ms (M3 109) (M3 97 21).toNat 0 := by rw [pM10.2.1, CM7_109, show M7 97 21 = M3 97 21 by omega]
          have CM10_110 : M10 110 = ms (M3 110) (M3 97 27).toNat 29 := (fM100 110 (by decide)).trans CM7_110
          have CM10_111 : M10 111 = ms (M3 111) (M3 97 27).toNat v5 := (fM100 111 (by decide)).trans CM7_111
          have tkM10 : TK M10 := TK.eq tkM7 eM10_97_12 eM10_97_13 eM10_97_14 eM10_97_15 eM10_97_16
          have ppM10 := pM10.2.2
          clear pM10
          refine g_aload_n (pc' := 71) 1 dX10_behindTest_70 rfl rfl ?_
          refine g_callVv (pc' := 74) (As := []) (b := 97) (S := []) dX10_behindTest_71 rfl m_X10_158 w_X10_next (c_X10_next_x X M10 iM10 (by omega)) rfl ⟨_, _, _, rfl, rfl, rfl⟩ (by decide) (by decide) rfl (Nat.le_of_ble_eq_true rfl) (fun M12 q11 => ?_)
          obtain ⟨iM12, fM120, eM12_97_12, eM12_97_19, eM12_97_21, eM12_97_24, eM12_97_27, eM12_97_28, eM12_97_10, eM12_97_44, eM12_97_33, eM12_97_18, eM12_97_17, pM12⟩ := q11
          have fM12 : Fr (fun c => c = 97 ∨ (108 ≤ c ∧ c ≤ 111)) M M12 := Fr.tr fM10 fM120 fi_45
          have q97_12_M12 : (M12 97 12 = M 97 12) := eM12_97_12.trans q97_12_M10
          have q97_19_M12 : (M12 97 19 = M 97 19) := eM12_97_19.trans q97_19_M10
          have q97_10_M12 : (M12 97 10 = M 97 10) := eM12_97_10.trans q97_10_M10
          have q97_44_M12 : (M12 97 44 = M 97 44) := eM12_97_44.trans q97_44_M10
          have q97_33_M12 : (M12 97 33 = M 97 33) := eM12_97_33.trans q97_33_M10
          have wM12_97_12 : M12 97 12 = M10 97 12 := eM12_97_12
          have wM12_97_17 : M12 97 17 = M10 97 17 := eM12_97_17
          have wM12_97_18 : M12 97 18 = M10 97 18 := eM12_97_18
          have wM12_97_21 : M12 97 21 = M10 97 21 := eM12_97_21
          have wM12_97_24 : M12 97 24 = M10 97 24 := eM12_97_24
          have wM12_97_27 : M12 97 27 = M10 97 27 := eM12_97_27
          have wM12_97_28 : M12 97 28 = M10 97 28 := eM12_97_28
          have tzM12 : TZM M12 K W S E m := TZM.eq tzM10 (fM120 106 (by decide)) eM12_97_12
          obtain ⟨xxM12, pM12⟩ := pM12
          have atM12 : AT K W S E m M12 (i + 1) := AT.nx tzM10 (AT.eq hf.1 (by omega) (by omega) (by omega) (by omega) (by omega)) (by omega) xxM12 (by omega)
          have CM12_108 : M12 108 = ms (M3 108) (M3 97 21).toNat 29 := (fM120 108 (by decide)).trans CM10_108
          have CM12_109 : M12 109 = ms (M3 109) (M3 97 21).toNat 0 := (fM120 109 (by decide)).trans CM10_109
          have CM12_110 : M12 110 = ms (M3 110) (M3 97 27).toNat 29 := (fM120 110 (by decide)).trans CM10_110
          have CM12_111 : M12 111 = ms (M3 111) (M3 97 27).toNat v5 := (fM120 111 (by decide)).trans CM10_111
          obtain ⟨aM12p, kM12p⟩ := pM12
          have tkM12 : TK M12 := kM12p
          clear kM12p
          have tbM12 := tkM12.b
          refine g_iconst (pc' := 75) dX10_behindTest_74 rfl ?_
          refine g_ireturn dX10_behindTest_75 ?_
          exact ⟨iM12, fM12, q97_12_M12, q97_19_M12, q97_10_M12, q97_44_M12, q97_33_M12, RFs.ok (i := i + 1) (lv := lv) (ops := 29 :: (stl 1 ops vs).1) (vs := (stl 1 ops vs).2) (by omega) (stTe_or (by omega)) (RFo.psh (vs := vs) hf.2.2.2 hf.2.2.1 stM3 (fM30 110 (by decide)) (by omega) (by omega) CM12_110 (by omega) (by omega) (by omega) atM12), (RLt.p (t := 0) (i := i + 1) (lv := lv) (ops := 29 :: (stl 1 ops vs).1) (vs := (stl 1 ops vs).2) (stTe_or (by omega)) (Or.inl rfl) (RLM.ao (rfM3 _ _ (show RLM M F0 ops vs from ⟨hf.2.2.2, hrq⟩)).1 (by omega) (by omega) (by decide) (NTo.lo (stl_tlo _ _) (by decide)) (T2s.nt ((rfM3 _ _ (show RLM M F0 ops vs from ⟨hf.2.2.2, hrq⟩)).2 ht2) (NTo.lo (stl_tlo _ _) (by decide))) CM12_108 CM12_109 (by rw [CM12_111, show v5 = M3 97 21 by omega]) (by omega)) (fun _ => show (27 : Int) ≤ 29 by decide)), ⟨by omega, by omega⟩, (PS.mk_ (q := 0) (SI.ao siM3 (by omega) CM12_110 (by rw [CM12_111, show v5 = M3 97 21 by omega]) (by omega) (by omega) (by omega) (by omega)) (HI.ao siM3 hiM3 (by omega) CM12_108 CM12_109 CM12_110 (by rw [CM12_111, show v5 = M3 97 21 by omega]) (by omega) (by omega)) (SQ.push sqM3 CM12_110 (by omega) (by omega) (by omega) (by omega)) (by omega)), (LO.tr loM3 (LO.em CM12_108 CM12_109 (by omega) (by omega))), tkM12, by omega, (mz_lt hbad (by omega) (by omega) (by omega))⟩
        · exact absurd c8 (by omega)
      · exact absurd c4 (by omega)
    · exact absurd c1 (by omega)
  · refine g_aload_n (pc' := 23) 1 dX10_behindTest_22 rfl rfl ?_
    refine g_iload_n (pc' := 24) 0 dX10_behindTest_23 rfl rfl ?_
    refine g_if_eq (pc' := 27) (tgt := 31) (by decide) dX10_behindTest_24 rfl rfl (fun c13 => ?_) (fun c13 => ?_)
    · exact absurd c13 (by omega)
    · refine g_iconst (pc' := 28) dX10_behindTest_27 rfl ?_
      refine g_goto (tgt := 32) dX10_behindTest_28 rfl ?_
      refine g_callVv (pc' := 35) (As := [vi 2]) (b := 97) (S := []) dX10_behindTest_32 rfl m_X10_254 w_X10_settle (c_X10_settle_z X M hi 2 (by decide) F0 hs0 (by omega)) rfl ⟨_, _, _, rfl, rfl, rfl⟩ (by decide) (by decide) rfl (Nat.le_of_ble_eq_true rfl) (fun M15 q14 => ?_)
      obtain ⟨iM15, fM150, eM15_97_10, eM15_97_44, eM15_97_33, eM15_97_12, eM15_97_19, eM15_97_24, eM15_97_28, eM15_97_13, eM15_97_14, eM15_97_15, eM15_97_16, eM15_97_18, eM15_97_17, pM15⟩ := q14
      have fM15 : Fr (fun c => c = 97 ∨ (108 ≤ c ∧ c ≤ 111)) M M15 := Fr.tr Fr.rf fM150 fi_46
      have q97_12_M15 : (M15 97 12 = M 97 12) := eM15_97_12
      have q97_19_M15 : (M15 97 19 = M 97 19) := eM15_97_19
      have q97_10_M15 : (M15 97 10 = M 97 10) := eM15_97_10
      have q97_44_M15 : (M15 97 44 = M 97 44) := eM15_97_44
      have q97_33_M15 : (M15 97 33 = M 97 33) := eM15_97_33
      have wM15_97_12 : M15 97 12 = M 97 12 := eM15_97_12
      have wM15_97_13 : M15 97 13 = M 97 13 := eM15_97_13
      have wM15_97_14 : M15 97 14 = M 97 14 := eM15_97_14
      have wM15_97_15 : M15 97 15 = M 97 15 := eM15_97_15
      have wM15_97_16 : M15 97 16 = M 97 16 := eM15_97_16
      have wM15_97_17 : M15 97 17 = M 97 17 := eM15_97_17
      have wM15_97_18 : M15 97 18 = M 97 18 := eM15_97_18
      have wM15_97_24 : M15 97 24 = M 97 24 := eM15_97_24
      have wM15_97_28 : M15 97 28 = M 97 28 := eM15_97_28
      have tzM15 : TZM M15 K W S E m := TZM.eq hz (fM150 106 (by decide)) eM15_97_12
      have CM15_110 : M15 110 = M 110 := fM150 110 (by decide)
      have CM15_111 : M15 111 = M 111 := fM150 111 (by decide)
      have tkM15 : TK M15 := TK.eq htk eM15_97_12 eM15_97_13 eM15_97_14 eM15_97_15 eM15_97_16
      obtain ⟨siM15, htM15, loM150, stM15, sxM15, rfM15⟩ := pM15
      have spM15 := stM15.1
      have saM15 := siM15.ar
      have loM15 : LO M M15 F0 := LO.tr (LO.rf _ _) loM150
      have hiM15 : HI M15 F0 1 := htM15 hh0
      have sqM15 : SQ M15 2 := SQ.nx hq0 (fM150 110 (by decide)) (by omega) (by omega)
      refine g_aload_n (pc' := 36) 1 dX10_behindTest_35 rfl rfl ?_
      refine g_iload_n (pc' := 37) 0 dX10_behindTest_36 rfl rfl ?_
      refine g_if_eq (pc' := 40) (tgt := 45) (by decide) dX10_behindTest_37 rfl rfl (fun c16 => ?_) (fun c16 => ?_)
      · exact absurd c16 (by omega)
      · refine g_bipush (pc' := 42) (v := 28) dX10_behindTest_40 rfl (by decide) ?_
        refine g_goto (tgt := 47) dX10_behindTest_42 rfl ?_
        refine g_aload_n (pc' := 48) 1 dX10_behindTest_47 rfl rfl ?_
        refine g_getI (pc' := 51) dX10_behindTest_48 rfl f_X10_191 rfl rfl (fun v17 ev17 rv17 => ?_)
        refine g_callVv (pc' := 54) (As := [vi 28, vi v17]) (b := 97) (S := []) dX10_behindTest_51 rfl m_X10_215 w_X10_push (c_X10_push_x X M15 iM15 28 (by decide) v17 rv17 (by omega)) rfl ⟨_, _, _, rfl, rfl, rfl⟩ (by decide) (by decide) rfl (Nat.le_of_ble_eq_true rfl) (fun M19 q18 => ?_)
        obtain ⟨iM19, fM190, eM19_97_12, eM19_97_19, eM19_97_21, eM19_97_24, eM19_97_28, eM19_97_10, eM19_97_44, eM19_97_33, eM19_97_13, eM19_97_14, eM19_97_15, eM19_97_16, eM19_97_18, eM19_97_17, pM19⟩ := q18
        have fM19 : Fr (fun c => c = 97 ∨ (108 ≤ c ∧ c ≤ 111)) M M19 := Fr.tr fM15 fM190 fi_47
        have q97_12_M19 : (M19 97 12 = M 97 12) := eM19_97_12.trans q97_12_M15
        have q97_19_M19 : (M19 97 19 = M 97 19) := eM19_97_19.trans q97_19_M15
        have q97_10_M19 : (M19 97 10 = M 97 10) := eM19_97_10.trans q97_10_M15
        have q97_44_M19 : (M19 97 44 = M 97 44) := eM19_97_44.trans q97_44_M15
        have q97_33_M19 : (M19 97 33 = M 97 33) := eM19_97_33.trans q97_33_M15
        have wM19_97_12 : M19 97 12 = M15 97 12 := eM19_97_12
        have wM19_97_13 : M19 97 13 = M15 97 13 := eM19_97_13
        have wM19_97_14 : M19 97 14 = M15 97 14 := eM19_97_14
        have wM19_97_15 : M19 97 15 = M15 97 15 := eM19_97_15
        have wM19_97_16 : M19 97 16 = M15 97 16 := eM19_97_16
        have wM19_97_17 : M19 97 17 = M15 97 17 := eM19_97_17
        have wM19_97_18 : M19 97 18 = M15 97 18 := eM19_97_18
        have wM19_97_21 : M19 97 21 = M15 97 21 := eM19_97_21
        have wM19_97_24 : M19 97 24 = M15 97 24 := eM19_97_24
        have wM19_97_28 : M19 97 28 = M15 97 28 := eM19_97_28
        have tzM19 : TZM M19 K W S E m := TZM.eq tzM15 (fM190 106 (by decide)) eM19_97_12
        have CM19_108 : M19 108 = M15 108 := fM190 108 (by decide)
        have CM19_109 : M19 109 = M15 109 := fM190 109 (by decide)
        have CM19_110 : M19 110 = ms (M15 110) (M15 97 27).toNat 28 := by rw [pM19.1, show M15 97 27 = M15 97 27 by omega]
        have CM19_111 : M19 111 = ms (M15 111) (M15 97 27).toNat v17 := by rw [pM19.2.1, show M15 97 27 = M15 97 27 by omega]
        have tkM19 : TK M19 := TK.eq tkM15 eM19_97_12 eM19_97_13 eM19_97_14 eM19_97_15 eM19_97_16
        have ppM19 := pM19.2.2
        clear pM19
        refine g_aload_n (pc' := 55) 1 dX10_behindTest_54 rfl rfl ?_
        refine g_iload_n (pc' := 56) 0 dX10_behindTest_55 rfl rfl ?_
        refine g_if_eq (pc' := 59) (tgt := 64) (by decide) dX10_behindTest_56 rfl rfl (fun c20 => ?_) (fun c20 => ?_)
        · exact absurd c20 (by omega)
        · refine g_bipush (pc' := 61) (v := 28) dX10_behindTest_59 rfl (by decide) ?_
          refine g_goto (tgt := 66) dX10_behindTest_61 rfl ?_
          refine g_iconst (pc' := 67) dX10_behindTest_66 rfl ?_
          refine g_callVv (pc' := 70) (As := [vi 28, vi 0]) (b := 97) (S := []) dX10_behindTest_67 rfl m_X10_200 w_X10_emit (c_X10_emit_x X M19 iM19 28 (by decide) 0 (by decide) (by omega)) rfl ⟨_, _, _, rfl, rfl, rfl⟩ (by decide) (by decide) rfl (Nat.le_of_ble_eq_true rfl) (fun M22 q21 => ?_)
          obtain ⟨iM22, fM220, eM22_97_12, eM22_97_19, eM22_97_24, eM22_97_27, eM22_97_28, eM22_97_10, eM22_97_44, eM22_97_33, eM22_97_13, eM22_97_14, eM22_97_15, eM22_97_16, eM22_97_18, eM22_97_17, pM22⟩ := q21
          have fM22 : Fr (fun c => c = 97 ∨ (108 ≤ c ∧ c ≤ 111)) M M22 := Fr.tr fM19 fM220 fi_46
          have q97_12_M22 : (M22 97 12 = M 97 12) := eM22_97_12.trans q97_12_M19
          have q97_19_M22 : (M22 97 19 = M 97 19) := eM22_97_19.trans q97_19_M19
          have q97_10_M22 : (M22 97 10 = M 97 10) := eM22_97_10.trans q97_10_M19
          have q97_44_M22 : (M22 97 44 = M 97 44) := eM22_97_44.trans q97_44_M19
          have q97_33_M22 : (M22 97 33 = M 97 33) := eM22_97_33.trans q97_33_M19
          have wM22_97_12 : M22 97 12 = M19 97 12 := eM22_97_12
          have wM22_97_13 : M22 97 13 = M19 97 13 := eM22_97_13
          have wM22_97_14 : M22 97 14 = M19 97 14 := eM22_97_14
          have wM22_97_15 : M22 97 15 = M19 97 15 := eM22_97_15
          have wM22_97_16 : M22 97 16 = M19 97 16 := eM22_97_16
          have wM22_97_17 : M22 97 17 = M19 97 17 := eM22_97_17
          have wM22_97_18 : M22 97 18 = M19 97 18 := eM22_97_18
          have wM22_97_24 : M22 97 24 = M19 97 24 := eM22_97_24
          have wM22_97_27 : M22 97 27 = M19 97 27 := eM22_97_27
          have wM22_97_28 : M22 97 28 = M19 97 28 := eM22_97_28
          have tzM22 : TZM M22 K W S E m := TZM.eq tzM19 (fM220 106 (by decide)) eM22_97_12
          have CM22_108 : M22 108 = ms (M15 108) (M15 97 21).toNat 28 := by rw [pM22.1, CM19_108, show M19 97 21 = M15 97 21 by omega]
          have CM22_109 : M22 109 = ms (M15 109) (M15 97 21).toNat 0 := by rw [pM22.2.1, CM19_109, show M19 97 21 = M15 97 21 by omega]
          have CM22_110 : M22 110 = ms (M15 110) (M15 97 27).toNat 28 := (fM220 110 (by decide)).trans CM19_110
          have CM22_111 : M22 111 = ms (M15 111) (M15 97 27).toNat v17 := (fM220 111 (by decide)).trans CM19_111
          have tkM22 : TK M22 := TK.eq tkM19 eM22_97_12 eM22_97_13 eM22_97_14 eM22_97_15 eM22_97_16
          have ppM22 := pM22.2.2
          clear pM22
          refine g_aload_n (pc' := 71) 1 dX10_behindTest_70 rfl rfl ?_
          refine g_callVv (pc' := 74) (As := []) (b := 97) (S := []) dX10_behindTest_71 rfl m_X10_158 w_X10_next (c_X10_next_x X M22 iM22 (by omega)) rfl ⟨_, _, _, rfl, rfl, rfl⟩ (by decide) (by decide) rfl (Nat.le_of_ble_eq_true rfl) (fun M24 q23 => ?_)
          obtain ⟨iM24, fM240, eM24_97_12, eM24_97_19, eM24_97_21, eM24_97_24, eM24_97_27, eM24_97_28, eM24_97_10, eM24_97_44, eM24_97_33, eM24_97_18, eM24_97_17, pM24⟩ := q23
          have fM24 : Fr (fun c => c = 97 ∨ (108 ≤ c ∧ c ≤ 111)) M M24 := Fr.tr fM22 fM240 fi_45
          have q97_12_M24 : (M24 97 12 = M 97 12) := eM24_97_12.trans q97_12_M22
          have q97_19_M24 : (M24 97 19 = M 97 19) := eM24_97_19.trans q97_19_M22
          have q97_10_M24 : (M24 97 10 = M 97 10) := eM24_97_10.trans q97_10_M22
          have q97_44_M24 : (M24 97 44 = M 97 44) := eM24_97_44.trans q97_44_M22
          have q97_33_M24 : (M24 97 33 = M 97 33) := eM24_97_33.trans q97_33_M22
          have wM24_97_12 : M24 97 12 = M22 97 12 := eM24_97_12
          have wM24_97_17 : M24 97 17 = M22 97 17 := eM24_97_17
          have wM24_97_18 : M24 97 18 = M22 97 18 := eM24_97_18
          have wM24_97_21 : M24 97 21 = M22 97 21 := eM24_97_21
          have wM24_97_24 : M24 97 24 = M22 97 24 := eM24_97_24
          have wM24_97_27 : M24 97 27 = M22 97 27 := eM24_97_27
          have wM24_97_28 : M24 97 28 = M22 97 28 := eM24_97_28
          have tzM24 : TZM M24 K W S E m := TZM.eq tzM22 (fM240 106 (by decide)) eM24_97_12
          obtain ⟨xxM24, pM24⟩ := pM24
          have atM24 : AT K W S E m M24 (i + 1) := AT.nx tzM22 (AT.eq hf.1 (by omega) (by omega) (by omega) (by omega) (by omega)) (by omega) xxM24 (by omega)
          have CM24_108 : M24 108 = ms (M15 108) (M15 97 21).toNat 28 := (fM240 108 (by decide)).trans CM22_108
          have CM24_109 : M24 109 = ms (M15 109) (M15 97 21).toNat 0 := (fM240 109 (by decide)).trans CM22_109
          have CM24_110 : M24 110 = ms (M15 110) (M15 97 27).toNat 28 := (fM240 110 (by decide)).trans CM22_110
          have CM24_111 : M24 111 = ms (M15 111) (M15 97 27).toNat v17 := (fM240 111 (by decide)).trans CM22_111
          obtain ⟨aM24p, kM24p⟩ := pM24
          have tkM24 : TK M24 := kM24p
          clear kM24p
          have tbM24 := tkM24.b
          refine g_iconst (pc' := 75) dX10_behindTest_74 rfl ?_
          refine g_ireturn dX10_behindTest_75 ?_
          exact ⟨iM24, fM24, q97_12_M24, q97_19_M24, q97_10_M24, q97_44_M24, q97_33_M24, RFs.ok (i := i + 1) (lv := lv) (ops := 28 :: (stl 2 ops vs).1) (vs := (stl 2 ops vs).2) (by omega) (stTe_and (by omega)) (RFo.psh (vs := vs) hf.2.2.2 hf.2.2.1 stM15 (fM150 110 (by decide)) (by omega) (by omega) CM24_110 (by omega) (by omega) (by omega) atM24), (RLt.p (t := 0) (i := i + 1) (lv := lv) (ops := 28 :: (stl 2 ops vs).1) (vs := (stl 2 ops vs).2) (stTe_and (by omega)) (Or.inl rfl) (RLM.ao (rfM15 _ _ (show RLM M F0 ops vs from ⟨hf.2.2.2, hrq⟩)).1 (by omega) (by omega) (by decide) (NTo.lo (stl_tlo _ _) (by decide)) (T2s.nt ((rfM15 _ _ (show RLM M F0 ops vs from ⟨hf.2.2.2, hrq⟩)).2 ht2) (NTo.lo (stl_tlo _ _) (by decide))) CM24_108 CM24_109 (by rw [CM24_111, show v17 = M15 97 21 by omega]) (by omega)) (fun _ => show (27 : Int) ≤ 28 by decide)), ⟨by omega, by omega⟩, (PS.mk_ (q := 0) (SI.ao siM15 (by omega) CM24_110 (by rw [CM24_111, show v17 = M15 97 21 by omega]) (by omega) (by omega) (by omega) (by omega)) (HI.ao siM15 hiM15 (by omega) CM24_108 CM24_109 CM24_110 (by rw [CM24_111, show v17 = M15 97 21 by omega]) (by omega) (by omega)) (SQ.push sqM15 CM24_110 (by omega) (by omega) (by omega) (by omega)) (by omega)), (LO.tr loM15 (LO.em CM24_108 CM24_109 (by omega) (by omega))), tkM24, by omega, (mz_lt hbad (by omega) (by omega) (by omega))⟩
set_option maxHeartbeats 4000000 in
set_option maxRecDepth 100000 in
theorem c_X10_behindTest_z (X : Cx) (M : Mm) (hi : IM M) (F0 : Int) (hs0 : SI M F0) (hh0 : HI M F0 1) (hq0 : SQ M 2) (htk : TK M) (hbad : M 97 18 = 0) (K W S E : Nat → Int) (m i : Nat) (lv : Int) (ops : List Int) (vs : List Mng) (hz : TZM M K W S E m) (hf : RFo K W S E m M i lv ops) (hrq : RLz M F0 ops vs) (ht2 : T2s ops vs) : Con X 3 yX10_behindTest cX10_behindTest 2 (some .int) [vr X 97] M (Qi (fun r M1 => IM M1 ∧ Fr (fun c => c = 97 ∨ (108 ≤ c ∧ c ≤ 111)) M M1 ∧ M1 97 12 = M 97 12 ∧ M1 97 19 = M 97 19 ∧ M1 97 10 = M 97 10 ∧ M1 97 44 = M 97 44 ∧ M1 97 33 = M 97 33 ∧ ((RFs K W S E m M1 r (stTe K W i lv ops vs)) ∧ (RLt M1 F0 (stTe K W i lv ops vs)) ∧ (0 ≤ r ∧ r ≤ 4) ∧ PS M1 F0 r ∧ LO M M1 F0 ∧ TK M1 ∧ M 97 13 ≤ M1 97 13 ∧ mz (M1 97 13) (M1 97 18) r < mz (M 97 13) (M 97 18) 2))) := by
  refine Con.ofG rfl (Nat.le_of_ble_eq_true rfl) ?_
  show G X 3 RX10 cX10_behindTest 2 (some .int) (Qi (fun r M1 => IM M1 ∧ Fr (fun c => c = 97 ∨ (108 ≤ c ∧ c ≤ 111)) M M1 ∧ M1 97 12 = M 97 12 ∧ M1 97 19 = M 97 19 ∧ M1 97 10 = M 97 10 ∧ M1 97 44 = M 97 44 ∧ M1 97 33 = M 97 33 ∧ ((RFs K W S E m M1 r (stTe K W i lv ops vs)) ∧ (RLt M1 F0 (stTe K W i lv ops vs)) ∧ (0 ≤ r ∧ r ≤ 4) ∧ PS M1 F0 r ∧ LO M M1 F0 ∧ TK M1 ∧ M 97 13 ≤ M1 97 13 ∧ mz (M1 97 13) (M1 97 18) r < mz (M 97 13) (M 97 18) 2))) 0 [(0, vr X 97)] [] M
  have p12 := hi.2.2.2.1
  have sa0 := hs0.ar
  have tb0 := htk.b
  have lt0 := htk.lt
  have hf2 := hf.2.1
  have hf3 := hf.2.2.1
  have aw0 := hf.1.w hz
  have on0 := opn_nn ops
  refine g_aload_n (pc' := 1) 0 dX10_behindTest_0 rfl rfl ?_
  refine g_ldc2 (pc' := 4) (v := 1476) dX10_behindTest_1 rfl k_X10_264 ?_
  refine g_callVip (pc' := 7) (As := [vl 1476]) (b := 97) (S := []) dX10_behindTest_4 rfl m_X10_229 w_X10_isWord (c_X10_isWord_x X M hi 1476 (by decide)) rfl ⟨_, _, _, rfl, rfl, rfl⟩ (by decide) (by decide) rfl (Nat.le_of_ble_eq_true rfl) (fun z2 q1 => ?_)
  refine g_istore_n (pc' := 8) (i := 1) (L' := [(1, vi z2), (0, vr X 97)]) dX10_behindTest_7 rfl rfl (by decide) rfl ?_
  refine g_iload_n (pc' := 9) 0 dX10_behindTest_8 rfl rfl ?_
  refine g_if_ne (pc' := 12) (tgt := 22) ⟨by omega, by omega⟩ dX10_behindTest_9 rfl rfl (fun c3 => ?_) (fun c3 => ?_)
  · replace q1 := q1.resolve_right (fun h => c3 h.1)
    refine g_sub [0, 1] rfl ?_
    exact j_X10_behindTest_z_22 X M hi F0 hs0 hh0 hq0 htk hbad K W S E m i lv ops vs hz hf hrq ht2 z2 (by omega) (by omega) (by omega)
  · replace q1 := q1.resolve_left (fun h => absurd (c3.symm.trans h.1) (by decide))
    refine g_aload_n (pc' := 13) 1 dX10_behindTest_12 rfl rfl ?_
    refine g_ldc2 (pc' := 16) (v := 498) dX10_behindTest_13 rfl k_X10_266 ?_
    refine g_callVip (pc' := 19) (As := [vl 498]) (b := 97) (S := []) dX10_behindTest_16 rfl m_X10_229 w_X10_isWord (c_X10_isWord_x X M hi 498 (by decide)) rfl ⟨_, _, _, rfl, rfl, rfl⟩ (by decide) (by decide) rfl (Nat.le_of_ble_eq_true rfl) (fun z5 q4 => ?_)
    refine g_if_eq (pc' := 22) (tgt := 76) ⟨by omega, by omega⟩ dX10_behindTest_19 rfl rfl (fun c6 => ?_) (fun c6 => ?_)
    · replace q4 := q4.resolve_left (fun h => absurd (c6.symm.trans h.1) (by decide))
      refine g_aload_n (pc' := 77) 1 dX10_behindTest_76 rfl rfl ?_
      refine g_callVip (pc' := 80) (As := []) (b := 97) (S := []) dX10_behindTest_77 rfl m_X10_257 w_X10_inner (c_X10_inner X M hi F0 hs0) rfl ⟨_, _, _, rfl, rfl, rfl⟩ (by decide) (by decide) rfl (Nat.le_of_ble_eq_true rfl) (fun z8 q7 => ?_)
      have hin := hf.2.2.2.inq (by omega) q7.1
      refine g_iconst (pc' := 81) dX10_behindTest_80 rfl ?_
      refine g_ic_ne (pc' := 84) (tgt := 86) ⟨by omega, by omega⟩ (by decide) dX10_behindTest_81 rfl rfl (fun c9 => ?_) (fun c9 => ?_)
      · refine g_aload_n (pc' := 87) 1 dX10_behindTest_86 rfl rfl ?_
        refine g_aload_n (pc' := 88) 1 dX10_behindTest_87 rfl rfl ?_
        refine g_bipush (pc' := 90) (v := 41) dX10_behindTest_88 rfl (by decide) ?_
        refine g_callVip (pc' := 93) (As := [vi 41]) (b := 97) (S := [vr X 97]) dX10_behindTest_90 rfl m_X10_221 w_X10_isSign (c_X10_isSign_x X M hi 41 (by decide)) rfl ⟨_, _, _, rfl, rfl, rfl⟩ (by decide) (by decide) rfl (Nat.le_of_ble_eq_true rfl) (fun z11 q10 => ?_)
        refine g_callVv (pc' := 96) (As := [vi z11]) (b := 97) (S := []) dX10_behindTest_93 rfl m_X10_187 w_X10_must (c_X10_must_x X M hi z11 ⟨by omega, by omega⟩ htk) rfl ⟨_, _, _, rfl, rfl, rfl⟩ (by decide) (by decide) rfl (Nat.le_of_ble_eq_true rfl) (fun M13 q12 => ?_)
        obtain ⟨iM13, fM130, eM13_97_12, eM13_97_19, eM13_97_21, eM13_97_24, eM13_97_27, eM13_97_28, eM13_97_10, eM13_97_44, eM13_97_33, pM13⟩ := q12
        have fM13 : Fr (fun c => c = 97 ∨ (108 ≤ c ∧ c ≤ 111)) M M13 := Fr.tr Fr.rf fM130 fi_45
        have q97_12_M13 : (M13 97 12 = M 97 12) := eM13_97_12
        have q97_19_M13 : (M13 97 19 = M 97 19) := eM13_97_19
        have q97_10_M13 : (M13 97 10 = M 97 10) := eM13_97_10
        have q97_44_M13 : (M13 97 44 = M 97 44) := eM13_97_44
        have q97_33_M13 : (M13 97 33 = M 97 33) := eM13_97_33
        have wM13_97_12 : M13 97 12 = M 97 12 := eM13_97_12
        have wM13_97_21 : M13 97 21 = M 97 21 := eM13_97_21
        have wM13_97_24 : M13 97 24 = M 97 24 := eM13_97_24
        have wM13_97_27 : M13 97 27 = M 97 27 := eM13_97_27
        have wM13_97_28 : M13 97 28 = M 97 28 := eM13_97_28
        have tzM13 : TZM M13 K W S E m := TZM.eq hz (fM130 106 (by decide)) eM13_97_12
        obtain ⟨xxM13, pM13⟩ := pM13
        have muM13 := xxM13.at_ hz hf.1 hbad (fun z => by omega)
        have CM13_108 : M13 108 = M 108 := fM130 108 (by decide)
        have CM13_109 : M13 109 = M 109 := fM130 109 (by decide)
        have CM13_110 : M13 110 = M 110 := fM130 110 (by decide)
        have CM13_111 : M13 111 = M 111 := fM130 111 (by decide)
        obtain ⟨aM13p, bM13p, cM13p, kM13p⟩ := pM13
        have tkM13 : TK M13 := kM13p
        clear kM13p
        have tbM13 := tkM13.b
        have siM13 : SI M13 F0 := SI.nx hs0 CM13_110 CM13_111 (by omega) (by omega) (by omega) (by omega)
        have hiM13 := HI.nx hh0 CM13_108 CM13_109 CM13_110 CM13_111 (by omega) (by omega)
        have sqM13 : SQ M13 2 := SQ.nx hq0 CM13_110 (by omega) (by omega)
        have loM13 : LO M M13 F0 := LO.tr (LO.rf _ _) (LO.eq CM13_108 CM13_109)
        refine g_aload_n (pc' := 97) 1 dX10_behindTest_96 rfl rfl ?_
        refine g_getI (pc' := 100) dX10_behindTest_97 rfl f_X10_154 rfl rfl (fun v14 ev14 rv14 => ?_)
        refine g_if_ne (pc' := 103) (tgt := 128) rv14 dX10_behindTest_100 rfl rfl (fun c15 => ?_) (fun c15 => ?_)
        · refine g_iconst (pc' := 129) dX10_behindTest_128 rfl ?_
          refine g_ireturn dX10_behindTest_129 ?_
          exact ⟨iM13, fM13, q97_12_M13, q97_19_M13, q97_10_M13, q97_44_M13, q97_33_M13, RFs.no (j := i) (by omega) (by rw [stTe_cl (by omega) (by omega) (by omega), if_neg (by omega)]) (by omega), (RLt.bad (by omega)), ⟨by omega, by omega⟩, (PS.bad siM13 (by omega)), loM13, tkM13, by omega, (mz_lt hbad (by omega) (by omega) (by omega))⟩
        · refine g_aload_n (pc' := 104) 1 dX10_behindTest_103 rfl rfl ?_
          refine g_iconst (pc' := 105) dX10_behindTest_104 rfl ?_
          refine g_callVv (pc' := 108) (As := [vi 1]) (b := 97) (S := []) dX10_behindTest_105 rfl m_X10_254 w_X10_settle (c_X10_settle_z X M13 iM13 1 (by decide) F0 siM13 (by omega)) rfl ⟨_, _, _, rfl, rfl, rfl⟩ (by decide) (by decide) rfl (Nat.le_of_ble_eq_true rfl) (fun M17 q16 => ?_)
          obtain ⟨iM17, fM170, eM17_97_10, eM17_97_44, eM17_97_33, eM17_97_12, eM17_97_19, eM17_97_24, eM17_97_28, eM17_97_13, eM17_97_14, eM17_97_15, eM17_97_16, eM17_97_18, eM17_97_17, pM17⟩ := q16
          have fM17 : Fr (fun c => c = 97 ∨ (108 ≤ c ∧ c ≤ 111)) M M17 := Fr.tr fM13 fM170 fi_46
          have q97_12_M17 : (M17 97 12 = M 97 12) := eM17_97_12.trans q97_12_M13
          have q97_19_M17 : (M17 97 19 = M 97 19) := eM17_97_19.trans q97_19_M13
          have q97_10_M17 : (M17 97 10 = M 97 10) := eM17_97_10.trans q97_10_M13
          have q97_44_M17 : (M17 97 44 = M 97 44) := eM17_97_44.trans q97_44_M13
          have q97_33_M17 : (M17 97 33 = M 97 33) := eM17_97_33.trans q97_33_M13
          have wM17_97_12 : M17 97 12 = M13 97 12 := eM17_97_12
          have wM17_97_13 : M17 97 13 = M13 97 13 := eM17_97_13
          have wM17_97_14 : M17 97 14 = M13 97 14 := eM17_97_14
          have wM17_97_15 : M17 97 15 = M13 97 15 := eM17_97_15
          have wM17_97_16 : M17 97 16 = M13 97 16 := eM17_97_16
          have wM17_97_17 : M17 97 17 = M13 97 17 := eM17_97_17
          have wM17_97_18 : M17 97 18 = M13 97 18 := eM17_97_18
          have wM17_97_24 : M17 97 24 = M13 97 24 := eM17_97_24
          have wM17_97_28 : M17 97 28 = M13 97 28 := eM17_97_28
          have tzM17 : TZM M17 K W S E m := TZM.eq tzM13 (fM170 106 (by decide)) eM17_97_12
          have CM17_110 : M17 110 = M 110 := (fM170 110 (by decide)).trans CM13_110
          have CM17_111 : M17 111 = M 111 := (fM170 111 (by decide)).trans CM13_111
          have tkM17 : TK M17 := TK.eq tkM13 eM17_97_12 eM17_97_13 eM17_97_14 eM17_97_15 eM17_97_16
          obtain ⟨siM17, htM17, loM170, stM17, sxM17, rfM17⟩ := pM17
          have spM17 := stM17.1
          have saM17 := siM17.ar
          have loM17 : LO M M17 F0 := LO.tr loM13 loM170
          have hiM17 : HI M17 F0 1 := htM17 hiM13
          have sqM17 : SQ M17 2 := SQ.nx sqM13 (fM170 110 (by decide)) (by omega) (by omega)
          refine g_aload_n (pc' := 109) 1 dX10_behindTest_108 rfl rfl ?_
          refine g_dup (pc' := 110) dX10_behindTest_109 rfl rfl ?_
          refine g_getI (pc' := 113) dX10_behindTest_110 rfl f_X10_194 rfl rfl (fun v18 ev18 rv18 => ?_)
          refine g_iconst (pc' := 114) dX10_behindTest_113 rfl ?_
          refine g_isub (pc' := 115) dX10_behindTest_114 rfl ?_
          refine g_putI (pc' := 118) dX10_behindTest_115 rfl p_X10_194 rfl rfl ⟨by omega, by omega⟩ (fun M19 hM19 => ?_)
          have iM19 : IM M19 := IM.wr iM17 hM19 (by unfold okv; first | decide | omega)
          have fM19 : Fr (fun c => c = 97 ∨ (108 ≤ c ∧ c ≤ 111)) M M19 := Fr.wr fM17 hM19 (by first | decide | omega | (dsimp only; omega))
          have q97_12_M19 : (M19 97 12 = M 97 12) := (show M19 97 12 = M17 97 12 by rw [hM19]; exact mu_ne _ _ (by first | decide | omega)).trans q97_12_M17
          have q97_19_M19 : (M19 97 19 = M 97 19) := (show M19 97 19 = M17 97 19 by rw [hM19]; exact mu_ne _ _ (by first | decide | omega)).trans q97_19_M17
          have q97_10_M19 : (M19 97 10 = M 97 10) := (show M19 97 10 = M17 97 10 by rw [hM19]; exact mu_ne _ _ (by first | decide | omega)).trans q97_10_M17
          have q97_44_M19 : (M19 97 44 = M 97 44) := (show M19 97 44 = M17 97 44 by rw [hM19]; exact mu_ne _ _ (by first | decide | omega)).trans q97_44_M17
          have q97_33_M19 : (M19 97 33 = M 97 33) := (show M19 97 33 = M17 97 33 by rw [hM19]; exact mu_ne _ _ (by first | decide | omega)).trans q97_33_M17
          have wM19_97_12 : M19 97 12 = M17 97 12 := by rw [hM19]; exact mu_ne _ _ (by first | decide | omega)
          have wM19_97_13 : M19 97 13 = M17 97 13 := by rw [hM19]; exact mu_ne _ _ (by first | decide | omega)
          have wM19_97_14 : M19 97 14 = M17 97 14 := by rw [hM19]; exact mu_ne _ _ (by first | decide | omega)
          have wM19_97_15 : M19 97 15 = M17 97 15 := by rw [hM19]; exact mu_ne _ _ (by first | decide | omega)
          have wM19_97_16 : M19 97 16 = M17 97 16 := by rw [hM19]; exact mu_ne _ _ (by first | decide | omega)
          have wM19_97_17 : M19 97 17 = M17 97 17 := by rw [hM19]; exact mu_ne _ _ (by first | decide | omega)
          have wM19_97_18 : M19 97 18 = M17 97 18 := by rw [hM19]; exact mu_ne _ _ (by first | decide | omega)
          have wM19_97_21 : M19 97 21 = M17 97 21 := by rw [hM19]; exact mu_ne _ _ (by first | decide | omega)
          have wM19_97_24 : M19 97 24 = M17 97 24 := by rw [hM19]; exact mu_ne _ _ (by first | decide | omega)
          have wM19_97_28 : M19 97 28 = M17 97 28 := by rw [hM19]; exact mu_ne _ _ (by first | decide | omega)
          have xM19_97_27 : M19 97 27 = v18 - 1 := by rw [hM19]; exact mu_at _ _ _ _
          have CM19_108 : M19 108 = M17 108 := by rw [hM19, mu_cell _ _ (by decide)]
          have CM19_109 : M19 109 = M17 109 := by rw [hM19, mu_cell _ _ (by decide)]
          have CM19_110 : M19 110 = M17 110 := by rw [hM19, mu_cell _ _ (by decide)]
          have CM19_111 : M19 111 = M17 111 := by rw [hM19, mu_cell _ _ (by decide)]
          have tkM19 : TK M19 := TK.eq tkM17 (show M19 97 12 = M17 97 12 by rw [hM19]; exact mu_ne _ _ (by first | decide | omega)) (show M19 97 13 = M17 97 13 by rw [hM19]; exact mu_ne _ _ (by first | decide | omega)) (show M19 97 14 = M17 97 14 by rw [hM19]; exact mu_ne _ _ (by first | decide | omega)) (show M19 97 15 = M17 97 15 by rw [hM19]; exact mu_ne _ _ (by first | decide | omega)) (show M19 97 16 = M17 97 16 by rw [hM19]; exact mu_ne _ _ (by first | decide | omega))
          have tzM19 : TZM M19 K W S E m := TZM.eq tzM17 (by rw [hM19]; exact mu_cell _ _ (by decide)) (show M19 97 12 = M17 97 12 by rw [hM19]; exact mu_ne _ _ (by first | decide | omega))
          refine g_aload_n (pc' := 119) 1 dX10_behindTest_118 rfl rfl ?_
          refine g_dup (pc' := 120) dX10_behindTest_119 rfl rfl ?_
          refine g_getI (pc' := 123) dX10_behindTest_120 rfl f_X10_212 rfl rfl (fun v20 ev20 rv20 => ?_)
          refine g_iconst (pc' := 124) dX10_behindTest_123 rfl ?_
          refine g_isub (pc' := 125) dX10_behindTest_124 rfl ?_
          refine g_putI (pc' := 128) dX10_behindTest_125 rfl p_X10_212 rfl rfl ⟨by omega, by omega⟩ (fun M21 hM21 => ?_)
          have iM21 : IM M21 := IM.wr iM19 hM21 (by unfold okv; first | decide | omega)
          have fM21 : Fr (fun c => c = 97 ∨ (108 ≤ c ∧ c ≤ 111)) M M21 := Fr.wr fM19 hM21 (by first | decide | omega | (dsimp only; omega))
          have q97_12_M21 : (M21 97 12 = M 97 12) := (show M21 97 12 = M19 97 12 by rw [hM21]; exact mu_ne _ _ (by first | decide | omega)).trans q97_12_M19
          have q97_19_M21 : (M21 97 19 = M 97 19) := (show M21 97 19 = M19 97 19 by rw [hM21]; exact mu_ne _ _ (by first | decide | omega)).trans q97_19_M19
          have q97_10_M21 : (M21 97 10 = M 97 10) := (show M21 97 10 = M19 97 10 by rw [hM21]; exact mu_ne _ _ (by first | decide | omega)).trans q97_10_M19
          have q97_44_M21 : (M21 97 44 = M 97 44) := (show M21 97 44 = M19 97 44 by rw [hM21]; exact mu_ne _ _ (by first | decide | omega)).trans q97_44_M19
          have q97_33_M21 : (M21 97 33 = M 97 33) := (show M21 97 33 = M19 97 33 by rw [hM21]; exact mu_ne _ _ (by first | decide | omega)).trans q97_33_M19
          have wM21_97_12 : M21 97 12 = M19 97 12 := by rw [hM21]; exact mu_ne _ _ (by first | decide | omega)
          have wM21_97_13 : M21 97 13 = M19 97 13 := by rw [hM21]; exact mu_ne _ _ (by first | decide | omega)
          have wM21_97_14 : M21 97 14 = M19 97 14 := by rw [hM21]; exact mu_ne _ _ (by first | decide | omega)
          have wM21_97_15 : M21 97 15 = M19 97 15 := by rw [hM21]; exact mu_ne _ _ (by first | decide | omega)
          have wM21_97_16 : M21 97 16 = M19 97 16 := by rw [hM21]; exact mu_ne _ _ (by first | decide | omega)
          have wM21_97_17 : M21 97 17 = M19 97 17 := by rw [hM21]; exact mu_ne _ _ (by first | decide | omega)
          have wM21_97_18 : M21 97 18 = M19 97 18 := by rw [hM21]; exact mu_ne _ _ (by first | decide | omega)
          have wM21_97_21 : M21 97 21 = M19 97 21 := by rw [hM21]; exact mu_ne _ _ (by first | decide | omega)
          have wM21_97_24 : M21 97 24 = M19 97 24 := by rw [hM21]; exact mu_ne _ _ (by first | decide | omega)
          have wM21_97_27 : M21 97 27 = M19 97 27 := by rw [hM21]; exact mu_ne _ _ (by first | decide | omega)
          have xM21_97_27 : M21 97 27 = v18 - 1 := (show M21 97 27 = M19 97 27 by rw [hM21]; exact mu_ne _ _ (by first | decide | omega)).trans xM19_97_27
          have xM21_97_28 : M21 97 28 = v20 - 1 := by rw [hM21]; exact mu_at _ _ _ _
          have CM21_108 : M21 108 = M17 108 := by rw [hM21, mu_cell _ _ (by decide), CM19_108]
          have CM21_109 : M21 109 = M17 109 := by rw [hM21, mu_cell _ _ (by decide), CM19_109]
          have CM21_110 : M21 110 = M17 110 := by rw [hM21, mu_cell _ _ (by decide), CM19_110]
          have CM21_111 : M21 111 = M17 111 := by rw [hM21, mu_cell _ _ (by decide), CM19_111]
          have tkM21 : TK M21 := TK.eq tkM19 (show M21 97 12 = M19 97 12 by rw [hM21]; exact mu_ne _ _ (by first | decide | omega)) (show M21 97 13 = M19 97 13 by rw [hM21]; exact mu_ne _ _ (by first | decide | omega)) (show M21 97 14 = M19 97 14 by rw [hM21]; exact mu_ne _ _ (by first | decide | omega)) (show M21 97 15 = M19 97 15 by rw [hM21]; exact mu_ne _ _ (by first | decide | omega)) (show M21 97 16 = M19 97 16 by rw [hM21]; exact mu_ne _ _ (by first | decide | omega))
          have tzM21 : TZM M21 K W S E m := TZM.eq tzM19 (by rw [hM21]; exact mu_cell _ _ (by decide)) (show M21 97 12 = M19 97 12 by rw [hM21]; exact mu_ne _ _ (by first | decide | omega))
          have inM21 := INN.nx q7.1 rfl CM13_110 (show M13 97 27 = M 97 27 by omega)
          have drM21 := STP.rd stM17 inM21 (by omega)
          have dbM21 : 30 ≤ M17 110 (M17 97 27 - 1).toNat := by rw [fM170 110 (by decide)]; omega
          have siM21 : SI M21 F0 := SI.drop siM17 (by omega) (by omega) CM21_110 CM21_111 (by omega) (by omega)
          have hiM21 : HI M21 F0 1 := HI.drop hiM17 (by omega) dbM21 CM21_108 CM21_109 CM21_110 CM21_111 (by omega) (by omega)
          have sqM21 : SQ M21 2 := SQ.nx sqM17 CM21_110 (by omega) (by omega)
          have loM21 : LO M M21 F0 := LO.tr loM17 (LO.eq CM21_108 CM21_109)
          have dwM21 : M17 110 (M17 97 27 - 1).toNat = 30 := by
            have z1 := SI.pile hs0 (i := M17 97 27 - 1) (by omega) (by omega) (v := M 110 (M17 97 27 - 1).toNat) rfl
            have z2 := hq0.2.1 (Or.inr rfl) (M17 97 27 - 1).toNat (by omega)
            have z3 := drM21.2
            rw [fM170 110 (by decide), show M13 110 = M 110 from (CM13_110)]
            rw [show M13 110 = M 110 from (CM13_110)] at z3
            omega
          refine g_iconst (pc' := 129) dX10_behindTest_128 rfl ?_
          refine g_ireturn dX10_behindTest_129 ?_
          exact ⟨iM21, fM21, q97_12_M21, q97_19_M21, q97_10_M21, q97_44_M21, q97_33_M21, RFs.ok (i := i + 1) (lv := lv) (ops := (stl 1 ops vs).1.tail) (vs := (stl 1 ops vs).2) (by omega) (by rw [stTe_cl (by omega) (by omega) (by omega), if_pos (by omega)]; rfl) (RFo.cls (vs := vs) (show PIL (M13 110) (M13 97 27).toNat ops by rw [CM13_110, show M13 97 27 = M 97 27 by omega]; exact hf.2.2.2) (show M13 97 28 = opn ops by omega) stM17 (fM170 110 (by decide)) (by omega) (by omega) CM21_110 (by omega) (by omega) (by omega) (AT.eq (muM13.resolve_right (fun z => z.1 (by omega))).2.2 (by omega) (by omega) (by omega) (by omega) (by omega))), (RLt.s (t := 2) (i := i + 1) (lv := lv) (ops := (stl 1 ops vs).1.tail) (vs := (stl 1 ops vs).2) (by rw [stTe_cl (by omega) (by omega) (by omega), if_pos (by omega)]; rfl) (by decide) (RLM.cls (rfM17 _ _ (show RLM M13 F0 ops vs from ⟨by rw [CM13_110, show M13 97 27 = M 97 27 by omega]; exact hf.2.2.2, hrq.eq CM13_108 CM13_109 CM13_111 (by omega)⟩)).1 (by omega) CM21_108 CM21_109 CM21_111 (by omega) (Or.inl dwM21)).1 (fun _ => (RLM.cls (rfM17 _ _ (show RLM M13 F0 ops vs from ⟨by rw [CM13_110, show M13 97 27 = M 97 27 by omega]; exact hf.2.2.2, hrq.eq CM13_108 CM13_109 CM13_111 (by omega)⟩)).1 (by omega) CM21_108 CM21_109 CM21_111 (by omega) (Or.inl dwM21)).2 dwM21 ((rfM17 _ _ (show RLM M13 F0 ops vs from ⟨by rw [CM13_110, show M13 97 27 = M 97 27 by omega]; exact hf.2.2.2, hrq.eq CM13_108 CM13_109 CM13_111 (by omega)⟩)).2 ht2))), ⟨by omega, by omega⟩, (PS.mk_ siM21 hiM21 sqM21 (by omega)), loM21, tkM21, by omega, (mz_lt hbad (by omega) (by omega) (by omega))⟩
      · refine g_iconst (pc' := 85) dX10_behindTest_84 rfl ?_
        refine g_ireturn dX10_behindTest_85 ?_
        exact ⟨hi, Fr.rf, rfl, rfl, rfl, rfl, rfl, RFs.ok hbad (stTe_ov (by omega) (by omega) (by omega)) hf, (RLt.s (stTe_ov (by omega) (by omega) (by omega)) (by decide) hrq (fun z => absurd z (by decide))), ⟨by omega, by omega⟩, (PS.mk_ hs0 hh0 (SQ.inn hq0 q7.1 (by omega) (by omega)) (by omega)), (LO.rf _ _), htk, by omega, (mz_lt hbad (by omega) (by omega) (by omega))⟩
    · replace q4 := q4.resolve_right (fun h => c6 h.1)
      refine g_sub [0, 1] rfl ?_
      exact j_X10_behindTest_z_22 X M hi F0 hs0 hh0 hq0 htk hbad K W S E m i lv ops vs hz hf hrq ht2 z2 (by omega) (by omega) (by omega)
set_option maxHeartbeats 4000000 in
set_option maxRecDepth 100000 in
theorem l_X10_readExpression_z_20 (X : Cx) (M : Mm) (hi : IM M) (a : Int) (ha : inI a) (htk : TK M) (hbad : M 97 18 = 0) (hnc : 0 ≤ M 97 21 ∧ M 97 21 ≤ M 97 13) (K W S E : Nat → Int) (m i : Nat) (lv : Int) (tb : Bool) (hta : (a ≠ 0 ∧ tb = true) ∨ (a = 0 ∧ tb = false)) (hz : TZM M K W S E m) (hat : AT K W S E m M i) (h24 : M 97 24 = lv) : ∀ (kk : Nat) (tn : Int) (M1 : Mm) (ic1 : IM M1) (fr1 : Fr (fun c => c = 97 ∨ (108 ≤ c ∧ c ≤ 111)) M M1) (q97_12 : (M1 97 12 = M 97 12)) (q97_19 : (M1 97 19 = M 97 19)) (q97_10 : (M1 97 10 = M 97 10)) (q97_44 : (M1 97 44 = M 97 44)) (q97_33 : (M1 97 33 = M 97 33)) (htn : 0 ≤ tn ∧ tn ≤ 4) (ps1 : PS M1 (M 97 21) tn) (lo1 : LO M M1 (M 97 21)) (tk1 : TK M1) (fa1 : M 97 13 ≤ M1 97 13) (s : RSt) (rc : RCH K W tb ((if tb = true then 0 else 1), i, lv, [], []) s) (rf : RFs K W S E m M1 tn s) (rz : RLt M1 (M 97 21) s) (tz1 : TZM M1 K W S E m), (mz (M1 97 13) (M1 97 18) tn).toNat = kk → G X 6 RX10 cX10_readExpression 3 none (Qv (fun M1 => IM M1 ∧ Fr (fun c => c = 97 ∨ (108 ≤ c ∧ c ≤ 111)) M M1 ∧ M1 97 12 = M 97 12 ∧ M1 97 19 = M 97 19 ∧ M1 97 10 = M 97 10 ∧ M1 97 44 = M 97 44 ∧ M1 97 33 = M 97 33 ∧ ((EXQ K W S E m tb i lv M1) ∧ (M1 97 18 = 0 → MR (M1 108) (M1 109) (M 97 21).toNat (M1 97 21).toNat (exM K W tb i lv)) ∧ SI M1 (M 97 21) ∧ RX M1 (M 97 21) ∧ LO M M1 (M 97 21) ∧ TK M1 ∧ M 97 13 ≤ M1 97 13))) 20 [(2, vi tn), (0, vr X 97), (1, vi a)] [] M1 := by
  intro kk
  induction kk using Nat.strongRecOn with
  | ind kk ih =>
    intro tn M1 ic1 fr1 q97_12 q97_19 q97_10 q97_44 q97_33 htn ps1 lo1 tk1 fa1 s rc rf rz tz1 hmes
    have p12 := hi.2.2.2.1
    have sa1 := ps1.1.ar
    have tb1 := tk1.b
    refine g_aload_n (pc' := 21) 1 dX10_readExpression_20 rfl rfl ?_
    refine g_getI (pc' := 24) dX10_readExpression_21 rfl f_X10_154 rfl rfl (fun v1 ev1 rv1 => ?_)
    refine g_if_ne (pc' := 27) (tgt := 76) rv1 dX10_readExpression_24 rfl rfl (fun c2 => ?_) (fun c2 => ?_)
    · refine g_aload_n (pc' := 77) 1 dX10_readExpression_76 rfl rfl ?_
      refine g_iconst (pc' := 78) dX10_readExpression_77 rfl ?_
      refine g_callVv (pc' := 81) (As := [vi 1]) (b := 97) (S := []) dX10_readExpression_78 rfl m_X10_254 w_X10_settle (c_X10_settle_z X M1 ic1 1 (by decide) (M 97 21) ps1.1 (by omega)) rfl ⟨_, _, _, rfl, rfl, rfl⟩ (by decide) (by decide) rfl (Nat.le_of_ble_eq_true rfl) (fun M4 q3 => ?_)
      obtain ⟨iM4, fM40, eM4_97_10, eM4_97_44, eM4_97_33, eM4_97_12, eM4_97_19, eM4_97_24, eM4_97_28, eM4_97_13, eM4_97_14, eM4_97_15, eM4_97_16, eM4_97_18, eM4_97_17, pM4⟩ := q3
      have fM4 : Fr (fun c => c = 97 ∨ (108 ≤ c ∧ c ≤ 111)) M M4 := Fr.tr fr1 fM40 fi_46
      have q97_12_M4 : (M4 97 12 = M 97 12) := eM4_97_12.trans q97_12
      have q97_19_M4 : (M4 97 19 = M 97 19) := eM4_97_19.trans q97_19
      have q97_10_M4 : (M4 97 10 = M 97 10) := eM4_97_10.trans q97_10
      have q97_44_M4 : (M4 97 44 = M 97 44) := eM4_97_44.trans q97_44
      have q97_33_M4 : (M4 97 33 = M 97 33) := eM4_97_33.trans q97_33
      have wM4_97_12 : M4 97 12 = M1 97 12 := eM4_97_12
      have wM4_97_13 : M4 97 13 = M1 97 13 := eM4_97_13
      have wM4_97_14 : M4 97 14 = M1 97 14 := eM4_97_14
      have wM4_97_15 : M4 97 15 = M1 97 15 := eM4_97_15
      have wM4_97_16 : M4 97 16 = M1 97 16 := eM4_97_16
      have wM4_97_17 : M4 97 17 = M1 97 17 := eM4_97_17
      have wM4_97_18 : M4 97 18 = M1 97 18 := eM4_97_18
      have wM4_97_24 : M4 97 24 = M1 97 24 := eM4_97_24
      have wM4_97_28 : M4 97 28 = M1 97 28 := eM4_97_28
      have tzM4 : TZM M4 K W S E m := TZM.eq tz1 (fM40 106 (by decide)) eM4_97_12
      have CM4_110 : M4 110 = M1 110 := fM40 110 (by decide)
      have CM4_111 : M4 111 = M1 111 := fM40 111 (by decide)
      have tkM4 : TK M4 := TK.eq tk1 eM4_97_12 eM4_97_13 eM4_97_14 eM4_97_15 eM4_97_16
      obtain ⟨siM4, htM4, loM40, stM4, sxM4, rfM4⟩ := pM4
      have spM4 := stM4.1
      have saM4 := siM4.ar
      have loM4 : LO M M4 (M 97 21) := LO.tr lo1 loM40
      refine g_vreturn dX10_readExpression_81 ?_
      exact ⟨iM4, fM4, q97_12_M4, q97_19_M4, q97_10_M4, q97_44_M4, q97_33_M4, (RFs.end_ rc rf (by omega)).eq (by omega) (by omega) (by omega) (by omega) (by omega) (by omega) (by omega), (fun hb => RLM.end_ (s := s) rfM4 ⟨(rf.o (by omega)).2.2.2, ((rz (by omega)).2.1 (by have y := rf.t_ (by omega) (show tn = 4 by omega); omega))⟩ (stM4.z ((PS.t_ ps1 (show tn = 4 by omega)).sq (by omega))) ⟨rc, stp4 (rf.t_ (by omega) (show tn = 4 by omega))⟩ (rf.t_ (by omega) (show tn = 4 by omega))), siM4, RX.fin (by omega) ps1 (by omega) siM4 htM4 stM4, loM4, tkM4, by omega⟩
    · refine g_iload_n (pc' := 28) 0 dX10_readExpression_27 rfl rfl ?_
      refine g_iconst (pc' := 29) dX10_readExpression_28 rfl ?_
      refine g_ic_eq (pc' := 32) (tgt := 76) ⟨by omega, by omega⟩ (by decide) dX10_readExpression_29 rfl rfl (fun c5 => ?_) (fun c5 => ?_)
      · refine g_aload_n (pc' := 77) 1 dX10_readExpression_76 rfl rfl ?_
        refine g_iconst (pc' := 78) dX10_readExpression_77 rfl ?_
        refine g_callVv (pc' := 81) (As := [vi 1]) (b := 97) (S := []) dX10_readExpression_78 rfl m_X10_254 w_X10_settle (c_X10_settle_z X M1 ic1 1 (by decide) (M 97 21) ps1.1 (by omega)) rfl ⟨_, _, _, rfl, rfl, rfl⟩ (by decide) (by decide) rfl (Nat.le_of_ble_eq_true rfl) (fun M7 q6 => ?_)
        obtain ⟨iM7, fM70, eM7_97_10, eM7_97_44, eM7_97_33, eM7_97_12, eM7_97_19, eM7_97_24, eM7_97_28, eM7_97_13, eM7_97_14, eM7_97_15, eM7_97_16, eM7_97_18, eM7_97_17, pM7⟩ := q6
        have fM7 : Fr (fun c => c = 97 ∨ (108 ≤ c ∧ c ≤ 111)) M M7 := Fr.tr fr1 fM70 fi_46
        have q97_12_M7 : (M7 97 12 = M 97 12) := eM7_97_12.trans q97_12
        have q97_19_M7 : (M7 97 19 = M 97 19) := eM7_97_19.trans q97_19
        have q97_10_M7 : (M7 97 10 = M 97 10) := eM7_97_10.trans q97_10
        have q97_44_M7 : (M7 97 44 = M 97 44) := eM7_97_44.trans q97_44
        have q97_33_M7 : (M7 97 33 = M 97 33) := eM7_97_33.trans q97_33
        have wM7_97_12 : M7 97 12 = M1 97 12 := eM7_97_12
        have wM7_97_13 : M7 97 13 = M1 97 13 := eM7_97_13
        have wM7_97_14 : M7 97 14 = M1 97 14 := eM7_97_14
        have wM7_97_15 : M7 97 15 = M1 97 15 := eM7_97_15
        have wM7_97_16 : M7 97 16 = M1 97 16 := eM7_97_16
        have wM7_97_17 : M7 97 17 = M1 97 17 := eM7_97_17
        have wM7_97_18 : M7 97 18 = M1 97 18 := eM7_97_18
        have wM7_97_24 : M7 97 24 = M1 97 24 := eM7_97_24
        have wM7_97_28 : M7 97 28 = M1 97 28 := eM7_97_28
        have tzM7 : TZM M7 K W S E m := TZM.eq tz1 (fM70 106 (by decide)) eM7_97_12
        have CM7_110 : M7 110 = M1 110 := fM70 110 (by decide)
        have CM7_111 : M7 111 = M1 111 := fM70 111 (by decide)
        have tkM7 : TK M7 := TK.eq tk1 eM7_97_12 eM7_97_13 eM7_97_14 eM7_97_15 eM7_97_16
        obtain ⟨siM7, htM7, loM70, stM7, sxM7, rfM7⟩ := pM7
        have spM7 := stM7.1
        have saM7 := siM7.ar
        have loM7 : LO M M7 (M 97 21) := LO.tr lo1 loM70
        refine g_vreturn dX10_readExpression_81 ?_
        exact ⟨iM7, fM7, q97_12_M7, q97_19_M7, q97_10_M7, q97_44_M7, q97_33_M7, (RFs.end_ rc rf (by omega)).eq (by omega) (by omega) (by omega) (by omega) (by omega) (by omega) (by omega), (fun hb => RLM.end_ (s := s) rfM7 ⟨(rf.o (by omega)).2.2.2, ((rz (by omega)).2.1 (by have y := rf.t_ (by omega) (show tn = 4 by omega); omega))⟩ (stM7.z ((PS.t_ ps1 (show tn = 4 by omega)).sq (by omega))) ⟨rc, stp4 (rf.t_ (by omega) (show tn = 4 by omega))⟩ (rf.t_ (by omega) (show tn = 4 by omega))), siM7, RX.fin (by omega) ps1 (by omega) siM7 htM7 stM7, loM7, tkM7, by omega⟩
      · refine g_iload_n (pc' := 33) 0 dX10_readExpression_32 rfl rfl ?_
        refine g_if_ne (pc' := 36) (tgt := 43) ⟨by omega, by omega⟩ dX10_readExpression_33 rfl rfl (fun c8 => ?_) (fun c8 => ?_)
        · refine g_iload_n (pc' := 44) 0 dX10_readExpression_43 rfl rfl ?_
          refine g_iconst (pc' := 45) dX10_readExpression_44 rfl ?_
          refine g_ic_ne (pc' := 48) (tgt := 55) ⟨by omega, by omega⟩ (by decide) dX10_readExpression_45 rfl rfl (fun c9 => ?_) (fun c9 => ?_)
          · refine g_iload_n (pc' := 56) 0 dX10_readExpression_55 rfl rfl ?_
            refine g_iconst (pc' := 57) dX10_readExpression_56 rfl ?_
            refine g_ic_ne (pc' := 60) (tgt := 68) ⟨by omega, by omega⟩ (by decide) dX10_readExpression_57 rfl rfl (fun c10 => ?_) (fun c10 => ?_)
            · refine g_aload_n (pc' := 69) 1 dX10_readExpression_68 rfl rfl ?_
              refine g_callVi (pc' := 72) (As := []) (b := 97) (S := []) dX10_readExpression_69 rfl m_X10_275 w_X10_behindTest (c_X10_behindTest_z X M1 ic1 (M 97 21) (PS.t_ ps1 (show tn = 2 by omega)).1 ((PS.t_ ps1 (show tn = 2 by omega)).hi (by omega) (by omega)) ((PS.t_ ps1 (show tn = 2 by omega)).sq (by omega)) tk1 (by omega) K W S E m s.2.1 s.2.2.1 s.2.2.2.1 s.2.2.2.2 tz1 (rf.o (by omega)) ((rz (by omega)).2.1 (by have y := rf.t_ (by omega) (show tn = 2 by omega); omega)) ((rz (by omega)).2.2 (rf.t_ (by omega) (show tn = 2 by omega)))) rfl ⟨_, _, _, rfl, rfl, rfl⟩ (by decide) (by decide) rfl (Nat.le_of_ble_eq_true rfl) (fun z12 M13 q11 => ?_)
              obtain ⟨iM13, fM130, eM13_97_12, eM13_97_19, eM13_97_10, eM13_97_44, eM13_97_33, pM13⟩ := q11
              have fM13 : Fr (fun c => c = 97 ∨ (108 ≤ c ∧ c ≤ 111)) M M13 := Fr.tr fr1 fM130 (fun _ z => z)
              have q97_12_M13 : (M13 97 12 = M 97 12) := eM13_97_12.trans q97_12
              have q97_19_M13 : (M13 97 19 = M 97 19) := eM13_97_19.trans q97_19
              have q97_10_M13 : (M13 97 10 = M 97 10) := eM13_97_10.trans q97_10
              have q97_44_M13 : (M13 97 44 = M 97 44) := eM13_97_44.trans q97_44
              have q97_33_M13 : (M13 97 33 = M 97 33) := eM13_97_33.trans q97_33
              have wM13_97_12 : M13 97 12 = M1 97 12 := eM13_97_12
              have tzM13 : TZM M13 K W S E m := TZM.eq tz1 (fM130 106 (by decide)) eM13_97_12
              obtain ⟨xxM13, zqM13, pM13⟩ := pM13
              obtain ⟨rbM13, psM13, loM13, tkM13, faM13, mzM13⟩ := pM13
              have tbM13 := tkM13.b
              have mxM13 := mz_t (t' := tn) mzM13 (by omega)
              have myM13 := mz_nn (f := M13 97 13) (b := M13 97 18) (t := z12) (by omega)
              refine g_istore_n (pc' := 73) (i := 2) (L' := [(2, vi z12), (0, vr X 97), (1, vi a)]) dX10_readExpression_72 rfl rfl (by decide) rfl ?_
              refine g_goto (tgt := 20) dX10_readExpression_73 rfl ?_
              refine g_sub [0, 1, 2] rfl ?_
              exact ih _ (by omega) z12 M13 iM13 fM13 q97_12_M13 q97_19_M13 q97_10_M13 q97_44_M13 q97_33_M13 (by omega) psM13 (LO.tr lo1 loM13) tkM13 (by omega) (stTe K W s.2.1 s.2.2.1 s.2.2.2.1 s.2.2.2.2) (rc.tr (RCH.on (stp2 (rf.t_ (by omega) (by omega))))) xxM13 zqM13 tzM13 rfl
            · refine g_aload_n (pc' := 61) 1 dX10_readExpression_60 rfl rfl ?_
              refine g_iload_n (pc' := 62) 2 dX10_readExpression_61 rfl rfl ?_
              refine g_callVi (pc' := 65) (As := [vi a]) (b := 97) (S := []) dX10_readExpression_62 rfl m_X10_271 w_X10_behindSum (c_X10_behindSum_z X M1 ic1 a ha (M 97 21) (PS.t_ ps1 (show tn = 3 by omega)).1 ((PS.t_ ps1 (show tn = 3 by omega)).hi (by omega) (by omega)) ((PS.t_ ps1 (show tn = 3 by omega)).sq (by omega)) tk1 (by omega) K W S E m s.2.1 s.2.2.1 s.2.2.2.1 s.2.2.2.2 tz1 (rf.o (by omega)) ((rz (by omega)).2.1 (by have y := rf.t_ (by omega) (show tn = 3 by omega); omega)) tb hta) rfl ⟨_, _, _, rfl, rfl, rfl⟩ (by decide) (by decide) rfl (Nat.le_of_ble_eq_true rfl) (fun z15 M16 q14 => ?_)
              obtain ⟨iM16, fM160, eM16_97_12, eM16_97_19, eM16_97_10, eM16_97_44, eM16_97_33, pM16⟩ := q14
              have fM16 : Fr (fun c => c = 97 ∨ (108 ≤ c ∧ c ≤ 111)) M M16 := Fr.tr fr1 fM160 (fun _ z => z)
              have q97_12_M16 : (M16 97 12 = M 97 12) := eM16_97_12.trans q97_12
              have q97_19_M16 : (M16 97 19 = M 97 19) := eM16_97_19.trans q97_19
              have q97_10_M16 : (M16 97 10 = M 97 10) := eM16_97_10.trans q97_10
              have q97_44_M16 : (M16 97 44 = M 97 44) := eM16_97_44.trans q97_44
              have q97_33_M16 : (M16 97 33 = M 97 33) := eM16_97_33.trans q97_33
              have wM16_97_12 : M16 97 12 = M1 97 12 := eM16_97_12
              have tzM16 : TZM M16 K W S E m := TZM.eq tz1 (fM160 106 (by decide)) eM16_97_12
              obtain ⟨xxM16, zqM16, pM16⟩ := pM16
              obtain ⟨rbM16, psM16, loM16, tkM16, faM16, mzM16⟩ := pM16
              have tbM16 := tkM16.b
              have mxM16 := mz_t (t' := tn) mzM16 (by omega)
              have myM16 := mz_nn (f := M16 97 13) (b := M16 97 18) (t := z15) (by omega)
              refine g_goto (tgt := 72) dX10_readExpression_65 rfl ?_
              refine g_istore_n (pc' := 73) (i := 2) (L' := [(2, vi z15), (0, vr X 97), (1, vi a)]) dX10_readExpression_72 rfl rfl (by decide) rfl ?_
              refine g_goto (tgt := 20) dX10_readExpression_73 rfl ?_
              refine g_sub [0, 1, 2] rfl ?_
              exact ih _ (by omega) z15 M16 iM16 fM16 q97_12_M16 q97_19_M16 q97_10_M16 q97_44_M16 q97_33_M16 (by omega) psM16 (LO.tr lo1 loM16) tkM16 (by omega) (stSu K W tb s.2.1 s.2.2.1 s.2.2.2.1 s.2.2.2.2) (rc.tr (RCH.on (stp3 (rf.t_ (by omega) (by omega))))) xxM16 zqM16 tzM16 rfl
          · refine g_aload_n (pc' := 49) 1 dX10_readExpression_48 rfl rfl ?_
            refine g_callVi (pc' := 52) (As := []) (b := 97) (S := []) dX10_readExpression_49 rfl m_X10_250 w_X10_readPart (c_X10_readPart_z X M1 ic1 (M 97 21) (PS.t_ ps1 (show tn = 1 by omega)).1 ((PS.t_ ps1 (show tn = 1 by omega)).hi (by omega) (by omega)) 1 (by omega) ((PS.t_ ps1 (show tn = 1 by omega)).sq (by omega)) tk1 (by omega) K W S E m s.2.1 s.2.2.1 s.2.2.2.1 s.2.2.2.2 tz1 (rf.o (by omega)) ((rz (by omega)).1 (by have y := rf.t_ (by omega) (show tn = 1 by omega); omega)).1) rfl ⟨_, _, _, rfl, rfl, rfl⟩ (by decide) (by decide) rfl (Nat.le_of_ble_eq_true rfl) (fun z18 M19 q17 => ?_)
            obtain ⟨iM19, fM190, eM19_97_12, eM19_97_19, eM19_97_10, eM19_97_44, eM19_97_33, pM19⟩ := q17
            have fM19 : Fr (fun c => c = 97 ∨ (108 ≤ c ∧ c ≤ 111)) M M19 := Fr.tr fr1 fM190 (fun _ z => z)
            have q97_12_M19 : (M19 97 12 = M 97 12) := eM19_97_12.trans q97_12
            have q97_19_M19 : (M19 97 19 = M 97 19) := eM19_97_19.trans q97_19
            have q97_10_M19 : (M19 97 10 = M 97 10) := eM19_97_10.trans q97_10
            have q97_44_M19 : (M19 97 44 = M 97 44) := eM19_97_44.trans q97_44
            have q97_33_M19 : (M19 97 33 = M 97 33) := eM19_97_33.trans q97_33
            have wM19_97_12 : M19 97 12 = M1 97 12 := eM19_97_12
            have tzM19 : TZM M19 K W S E m := TZM.eq tz1 (fM190 106 (by decide)) eM19_97_12
            obtain ⟨xxM19, zqM19, pM19⟩ := pM19
            obtain ⟨rbM19, psM19, loM19, tkM19, faM19, mzM19⟩ := pM19
            have tbM19 := tkM19.b
            have mxM19 := mz_t (t' := tn) mzM19 (by omega)
            have myM19 := mz_nn (f := M19 97 13) (b := M19 97 18) (t := z18) (by omega)
            refine g_goto (tgt := 72) dX10_readExpression_52 rfl ?_
            refine g_istore_n (pc' := 73) (i := 2) (L' := [(2, vi z18), (0, vr X 97), (1, vi a)]) dX10_readExpression_72 rfl rfl (by decide) rfl ?_
            refine g_goto (tgt := 20) dX10_readExpression_73 rfl ?_
            refine g_sub [0, 1, 2] rfl ?_
            exact ih _ (by omega) z18 M19 iM19 fM19 q97_12_M19 q97_19_M19 q97_10_M19 q97_44_M19 q97_33_M19 (by omega) psM19 (LO.tr lo1 loM19) tkM19 (by omega) (stPa K W s.2.1 s.2.2.1 s.2.2.2.1 s.2.2.2.2) (rc.tr (RCH.on (stp1 (rf.t_ (by omega) (by omega))))) xxM19 zqM19 tzM19 rfl
        · refine g_aload_n (pc' := 37) 1 dX10_readExpression_36 rfl rfl ?_
          refine g_callVi (pc' := 40) (As := []) (b := 97) (S := []) dX10_readExpression_37 rfl m_X10_268 w_X10_readPlain (c_X10_readPlain_z X M1 ic1 (M 97 21) (PS.t_ ps1 (show tn = 0 by omega)).1 ((PS.t_ ps1 (show tn = 0 by omega)).hi (by omega) (by omega)) ((PS.t_ ps1 (show tn = 0 by omega)).sq (by omega)) tk1 (by omega) K W S E m s.2.1 s.2.2.1 s.2.2.2.1 s.2.2.2.2 tz1 (rf.o (by omega)) ((rz (by omega)).1 (by have y := rf.t_ (by omega) (show tn = 0 by omega); omega)).1 (((rz (by omega)).1 (by have y := rf.t_ (by omega) (show tn = 0 by omega); omega)).2 (rf.t_ (by omega) (show tn = 0 by omega)))) rfl ⟨_, _, _, rfl, rfl, rfl⟩ (by decide) (by decide) rfl (Nat.le_of_ble_eq_true rfl) (fun z21 M22 q20 => ?_)
          obtain ⟨iM22, fM220, eM22_97_12, eM22_97_19, eM22_97_10, eM22_97_44, eM22_97_33, pM22⟩ := q20
          have fM22 : Fr (fun c => c = 97 ∨ (108 ≤ c ∧ c ≤ 111)) M M22 := Fr.tr fr1 fM220 (fun _ z => z)
          have q97_12_M22 : (M22 97 12 = M 97 12) := eM22_97_12.trans q97_12
          have q97_19_M22 : (M22 97 19 = M 97 19) := eM22_97_19.trans q97_19
          have q97_10_M22 : (M22 97 10 = M 97 10) := eM22_97_10.trans q97_10
          have q97_44_M22 : (M22 97 44 = M 97 44) := eM22_97_44.trans q97_44
          have q97_33_M22 : (M22 97 33 = M 97 33) := eM22_97_33.trans q97_33
          have wM22_97_12 : M22 97 12 = M1 97 12 := eM22_97_12
          have tzM22 : TZM M22 K W S E m := TZM.eq tz1 (fM220 106 (by decide)) eM22_97_12
          obtain ⟨xxM22, zqM22, pM22⟩ := pM22
          obtain ⟨rbM22, psM22, loM22, tkM22, faM22, mzM22⟩ := pM22
          have tbM22 := tkM22.b
          have mxM22 := mz_t (t' := tn) mzM22 (by omega)
          have myM22 := mz_nn (f := M22 97 13) (b := M22 97 18) (t := z21) (by omega)
          refine g_goto (tgt := 72) dX10_readExpression_40 rfl ?_
          refine g_istore_n (pc' := 73) (i := 2) (L' := [(2, vi z21), (0, vr X 97), (1, vi a)]) dX10_readExpression_72 rfl rfl (by decide) rfl ?_
          refine g_goto (tgt := 20) dX10_readExpression_73 rfl ?_
          refine g_sub [0, 1, 2] rfl ?_
          exact ih _ (by omega) z21 M22 iM22 fM22 q97_12_M22 q97_19_M22 q97_10_M22 q97_44_M22 q97_33_M22 (by omega) psM22 (LO.tr lo1 loM22) tkM22 (by omega) (stPl K W s.2.1 s.2.2.1 s.2.2.2.1 s.2.2.2.2) (rc.tr (RCH.on (stp0 (rf.t_ (by omega) (by omega))))) xxM22 zqM22 tzM22 rfl
set_option maxHeartbeats 4000000 in
set_option maxRecDepth 100000 in
theorem c_X10_readExpression_z (X : Cx) (M : Mm) (hi : IM M) (a : Int) (ha : inI a) (htk : TK M) (hbad : M 97 18 = 0) (hnc : 0 ≤ M 97 21 ∧ M 97 21 ≤ M 97 13) (K W S E : Nat → Int) (m i : Nat) (lv : Int) (tb : Bool) (hta : (a ≠ 0 ∧ tb = true) ∨ (a = 0 ∧ tb = false)) (hz : TZM M K W S E m) (hat : AT K W S E m M i) (h24 : M 97 24 = lv) : Con X 6 yX10_readExpression cX10_readExpression 3 none [vr X 97, vi a] M (Qv (fun M1 => IM M1 ∧ Fr (fun c => c = 97 ∨ (108 ≤ c ∧ c ≤ 111)) M M1 ∧ M1 97 12 = M 97 12 ∧ M1 97 19 = M 97 19 ∧ M1 97 10 = M 97 10 ∧ M1 97 44 = M 97 44 ∧ M1 97 33 = M 97 33 ∧ ((EXQ K W S E m tb i lv M1) ∧ (M1 97 18 = 0 → MR (M1 108) (M1 109) (M 97 21).toNat (M1 97 21).toNat (exM K W tb i lv)) ∧ SI M1 (M 97 21) ∧ RX M1 (M 97 21) ∧ LO M M1 (M 97 21) ∧ TK M1 ∧ M 97 13 ≤ M1 97 13))) := by
  refine Con.ofG rfl (Nat.le_of_ble_eq_true rfl) ?_
  show G X 6 RX10 cX10_readExpression 3 none (Qv (fun M1 => IM M1 ∧ Fr (fun c => c = 97 ∨ (108 ≤ c ∧ c ≤ 111)) M M1 ∧ M1 97 12 = M 97 12 ∧ M1 97 19 = M 97 19 ∧ M1 97 10 = M 97 10 ∧ M1 97 44 = M 97 44 ∧ M1 97 33 = M 97 33 ∧ ((EXQ K W S E m tb i lv M1) ∧ (M1 97 18 = 0 → MR (M1 108) (M1 109) (M 97 21).toNat (M1 97 21).toNat (exM K W tb i lv)) ∧ SI M1 (M 97 21) ∧ RX M1 (M 97 21) ∧ LO M M1 (M 97 21) ∧ TK M1 ∧ M 97 13 ≤ M1 97 13))) 0 [(0, vr X 97), (1, vi a)] [] M
  have p12 := hi.2.2.2.1
  have tb0 := htk.b
  refine g_aload_n (pc' := 1) 0 dX10_readExpression_0 rfl rfl ?_
  refine g_iconst (pc' := 2) dX10_readExpression_1 rfl ?_
  refine g_putI (pc' := 5) dX10_readExpression_2 rfl p_X10_194 rfl rfl (by decide) (fun M1 hM1 => ?_)
  have iM1 : IM M1 := IM.wr hi hM1 (by unfold okv; first | decide | omega)
  have fM1 : Fr (fun c => c = 97 ∨ (108 ≤ c ∧ c ≤ 111)) M M1 := Fr.wr Fr.rf hM1 (by first | decide | omega | (dsimp only; omega))
  have q97_12_M1 : (M1 97 12 = M 97 12) := (show M1 97 12 = M 97 12 by rw [hM1]; exact mu_ne _ _ (by first | decide | omega))
  have q97_19_M1 : (M1 97 19 = M 97 19) := (show M1 97 19 = M 97 19 by rw [hM1]; exact mu_ne _ _ (by first | decide | omega))
  have q97_10_M1 : (M1 97 10 = M 97 10) := (show M1 97 10 = M 97 10 by rw [hM1]; exact mu_ne _ _ (by first | decide | omega))
  have q97_44_M1 : (M1 97 44 = M 97 44) := (show M1 97 44 = M 97 44 by rw [hM1]; exact mu_ne _ _ (by first | decide | omega))
  have q97_33_M1 : (M1 97 33 = M 97 33) := (show M1 97 33 = M 97 33 by rw [hM1]; exact mu_ne _ _ (by first | decide | omega))
  have wM1_97_12 : M1 97 12 = M 97 12 := by rw [hM1]; exact mu_ne _ _ (by first | decide | omega)
  have wM1_97_13 : M1 97 13 = M 97 13 := by rw [hM1]; exact mu_ne _ _ (by first | decide | omega)
  have wM1_97_14 : M1 97 14 = M 97 14 := by rw [hM1]; exact mu_ne _ _ (by first | decide | omega)
  have wM1_97_15 : M1 97 15 = M 97 15 := by rw [hM1]; exact mu_ne _ _ (by first | decide | omega)
  have wM1_97_16 : M1 97 16 = M 97 16 := by rw [hM1]; exact mu_ne _ _ (by first | decide | omega)
  have wM1_97_17 : M1 97 17 = M 97 17 := by rw [hM1]; exact mu_ne _ _ (by first | decide | omega)
  have wM1_97_18 : M1 97 18 = M 97 18 := by rw [hM1]; exact mu_ne _ _ (by first | decide | omega)
  have wM1_97_21 : M1 97 21 = M 97 21 := by rw [hM1]; exact mu_ne _ _ (by first | decide | omega)
  have wM1_97_24 : M1 97 24 = M 97 24 := by rw [hM1]; exact mu_ne _ _ (by first | decide | omega)
  have wM1_97_28 : M1 97 28 = M 97 28 := by rw [hM1]; exact mu_ne _ _ (by first | decide | omega)
  have xM1_97_27 : M1 97 27 = 0 := by rw [hM1]; exact mu_at _ _ _ _
  have CM1_108 : M1 108 = M 108 := by rw [hM1, mu_cell _ _ (by decide)]
  have CM1_109 : M1 109 = M 109 := by rw [hM1, mu_cell _ _ (by decide)]
  have CM1_110 : M1 110 = M 110 := by rw [hM1, mu_cell _ _ (by decide)]
  have CM1_111 : M1 111 = M 111 := by rw [hM1, mu_cell _ _ (by decide)]
  have tkM1 : TK M1 := TK.eq htk (show M1 97 12 = M 97 12 by rw [hM1]; exact mu_ne _ _ (by first | decide | omega)) (show M1 97 13 = M 97 13 by rw [hM1]; exact mu_ne _ _ (by first | decide | omega)) (show M1 97 14 = M 97 14 by rw [hM1]; exact mu_ne _ _ (by first | decide | omega)) (show M1 97 15 = M 97 15 by rw [hM1]; exact mu_ne _ _ (by first | decide | omega)) (show M1 97 16 = M 97 16 by rw [hM1]; exact mu_ne _ _ (by first | decide | omega))
  have tzM1 : TZM M1 K W S E m := TZM.eq hz (by rw [hM1]; exact mu_cell _ _ (by decide)) (show M1 97 12 = M 97 12 by rw [hM1]; exact mu_ne _ _ (by first | decide | omega))
  refine g_aload_n (pc' := 6) 0 dX10_readExpression_5 rfl rfl ?_
  refine g_iconst (pc' := 7) dX10_readExpression_6 rfl ?_
  refine g_putI (pc' := 10) dX10_readExpression_7 rfl p_X10_212 rfl rfl (by decide) (fun M2 hM2 => ?_)
  have iM2 : IM M2 := IM.wr iM1 hM2 (by unfold okv; first | decide | omega)
  have fM2 : Fr (fun c => c = 97 ∨ (108 ≤ c ∧ c ≤ 111)) M M2 := Fr.wr fM1 hM2 (by first | decide | omega | (dsimp only; omega))
  have q97_12_M2 : (M2 97 12 = M 97 12) := (show M2 97 12 = M1 97 12 by rw [hM2]; exact mu_ne _ _ (by first | decide | omega)).trans q97_12_M1
  have q97_19_M2 : (M2 97 19 = M 97 19) := (show M2 97 19 = M1 97 19 by rw [hM2]; exact mu_ne _ _ (by first | decide | omega)).trans q97_19_M1
  have q97_10_M2 : (M2 97 10 = M 97 10) := (show M2 97 10 = M1 97 10 by rw [hM2]; exact mu_ne _ _ (by first | decide | omega)).trans q97_10_M1
  have q97_44_M2 : (M2 97 44 = M 97 44) := (show M2 97 44 = M1 97 44 by rw [hM2]; exact mu_ne _ _ (by first | decide | omega)).trans q97_44_M1
  have q97_33_M2 : (M2 97 33 = M 97 33) := (show M2 97 33 = M1 97 33 by rw [hM2]; exact mu_ne _ _ (by first | decide | omega)).trans q97_33_M1
  have wM2_97_12 : M2 97 12 = M1 97 12 := by rw [hM2]; exact mu_ne _ _ (by first | decide | omega)
  have wM2_97_13 : M2 97 13 = M1 97 13 := by rw [hM2]; exact mu_ne _ _ (by first | decide | omega)
  have wM2_97_14 : M2 97 14 = M1 97 14 := by rw [hM2]; exact mu_ne _ _ (by first | decide | omega)
  have wM2_97_15 : M2 97 15 = M1 97 15 := by rw [hM2]; exact mu_ne _ _ (by first | decide | omega)
  have wM2_97_16 : M2 97 16 = M1 97 16 := by rw [hM2]; exact mu_ne _ _ (by first | decide | omega)
  have wM2_97_17 : M2 97 17 = M1 97 17 := by rw [hM2]; exact mu_ne _ _ (by first | decide | omega)
  have wM2_97_18 : M2 97 18 = M1 97 18 := by rw [hM2]; exact mu_ne _ _ (by first | decide | omega)
  have wM2_97_21 : M2 97 21 = M1 97 21 := by rw [hM2]; exact mu_ne _ _ (by first | decide | omega)
  have wM2_97_24 : M2 97 24 = M1 97 24 := by rw [hM2]; exact mu_ne _ _ (by first | decide | omega)
  have wM2_97_27 : M2 97 27 = M1 97 27 := by rw [hM2]; exact mu_ne _ _ (by first | decide | omega)
  have xM2_97_27 : M2 97 27 = 0 := (show M2 97 27 = M1 97 27 by rw [hM2]; exact mu_ne _ _ (by first | decide | omega)).trans xM1_97_27
  have xM2_97_28 : M2 97 28 = 0 := by rw [hM2]; exact mu_at _ _ _ _
  have CM2_108 : M2 108 = M 108 := by rw [hM2, mu_cell _ _ (by decide), CM1_108]
  have CM2_109 : M2 109 = M 109 := by rw [hM2, mu_cell _ _ (by decide), CM1_109]
  have CM2_110 : M2 110 = M 110 := by rw [hM2, mu_cell _ _ (by decide), CM1_110]
  have CM2_111 : M2 111 = M 111 := by rw [hM2, mu_cell _ _ (by decide), CM1_111]
  have tkM2 : TK M2 := TK.eq tkM1 (show M2 97 12 = M1 97 12 by rw [hM2]; exact mu_ne _ _ (by first | decide | omega)) (show M2 97 13 = M1 97 13 by rw [hM2]; exact mu_ne _ _ (by first | decide | omega)) (show M2 97 14 = M1 97 14 by rw [hM2]; exact mu_ne _ _ (by first | decide | omega)) (show M2 97 15 = M1 97 15 by rw [hM2]; exact mu_ne _ _ (by first | decide | omega)) (show M2 97 16 = M1 97 16 by rw [hM2]; exact mu_ne _ _ (by first | decide | omega))
  have tzM2 : TZM M2 K W S E m := TZM.eq tzM1 (by rw [hM2]; exact mu_cell _ _ (by decide)) (show M2 97 12 = M1 97 12 by rw [hM2]; exact mu_ne _ _ (by first | decide | omega))
  refine g_iload_n (pc' := 11) 1 dX10_readExpression_10 rfl rfl ?_
  refine g_if_eq (pc' := 14) (tgt := 18) ha dX10_readExpression_11 rfl rfl (fun c3 => ?_) (fun c3 => ?_)
  · have htb : tb = false := by
      rcases hta with y | y
      · exact absurd (by omega) y.1
      · exact y.2
    refine g_iconst (pc' := 19) dX10_readExpression_18 rfl ?_
    refine g_istore_n (pc' := 20) (i := 2) (L' := [(2, vi 1), (0, vr X 97), (1, vi a)]) dX10_readExpression_19 rfl rfl (by decide) rfl ?_
    refine g_sub [0, 1, 2] rfl ?_
    exact l_X10_readExpression_z_20 X M hi a ha htk hbad hnc K W S E m i lv tb hta hz hat h24 _ 1 M2 iM2 fM2 q97_12_M2 q97_19_M2 q97_10_M2 q97_44_M2 q97_33_M2 (by omega) (PS.mk_ (q := 0) (SI.zero (by omega) (by omega) (by omega) (by omega)) (HI.zero (by omega) (by omega)) (SQ.zero (by omega)) (by omega)) (LO.eq CM2_108 CM2_109) tkM2 (by omega) ((if tb = true then 0 else 1), i, lv, [], []) RCH.rf (RFs.ok (i := i) (lv := lv) (ops := []) (vs := []) (by omega) (by rw [htb]; rfl) ⟨AT.eq hat (by omega) (by omega) (by omega) (by omega) (by omega), by omega, by show M2 97 28 = 0; omega, by rw [show (M2 97 27).toNat = 0 by omega]; rfl⟩) (RLt.p (t := 1) (i := i) (lv := lv) (ops := []) (vs := []) (by rw [htb]; rfl) (by decide) (RLq.nil (by omega) (by omega)) (fun _ => trivial)) tzM2 rfl
  · have htb : tb = true := by
      rcases hta with y | y
      · exact y.2
      · exact absurd y.1 (by omega)
    refine g_iconst (pc' := 15) dX10_readExpression_14 rfl ?_
    refine g_goto (tgt := 19) dX10_readExpression_15 rfl ?_
    refine g_istore_n (pc' := 20) (i := 2) (L' := [(2, vi 0), (0, vr X 97), (1, vi a)]) dX10_readExpression_19 rfl rfl (by decide) rfl ?_
    refine g_sub [0, 1, 2] rfl ?_
    exact l_X10_readExpression_z_20 X M hi a ha htk hbad hnc K W S E m i lv tb hta hz hat h24 _ 0 M2 iM2 fM2 q97_12_M2 q97_19_M2 q97_10_M2 q97_44_M2 q97_33_M2 (by omega) (PS.mk_ (q := 0) (SI.zero (by omega) (by omega) (by omega) (by omega)) (HI.zero (by omega) (by omega)) (SQ.zero (by omega)) (by omega)) (LO.eq CM2_108 CM2_109) tkM2 (by omega) ((if tb = true then 0 else 1), i, lv, [], []) RCH.rf (RFs.ok (i := i) (lv := lv) (ops := []) (vs := []) (by omega) (by rw [htb]; rfl) ⟨AT.eq hat (by omega) (by omega) (by omega) (by omega) (by omega), by omega, by show M2 97 28 = 0; omega, by rw [show (M2 97 27).toNat = 0 by omega]; rfl⟩) (RLt.p (t := 0) (i := i) (lv := lv) (ops := []) (vs := []) (by rw [htb]; rfl) (by decide) (RLq.nil (by omega) (by omega)) (fun _ => trivial)) tzM2 rfl
