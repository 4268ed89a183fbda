set_option maxHeartbeats 4000000 in
set_option maxRecDepth 100000 in
theorem j_X10_behindSum_z_189 (X : Cx) (M : Mm) (hi : IM M) (a : Int) (ha : inI a) (F0 : Int) (hs0 : SI M F0) (hh0 : HI M F0 1) (hq0 : SQ M 3) (htk : TK M) (hbad : M 97 18 = 0) (K W S E : Nat → Int) (m i : Nat) (lv : Int) (ops : List Int) (vs : List Mng) (hz : TZM M K W S E m) (hf : RFo K W S E m M i lv ops) (hrq : RLz M F0 ops vs) (tb : Bool) (hta : (a ≠ 0 ∧ tb = true) ∨ (a = 0 ∧ tb = false)) (op : Int) (hop : 24 ≤ op ∧ op ≤ 26) (hos : op ≠ 26 → M 97 15 = 3) (hop2 : (op = 24 ∧ isSg K W i 60) ∨ (op = 25 ∧ isSg K W i 62) ∨ (op = 26 ∧ ¬ isSg K W i 60 ∧ ¬ isSg K W i 62)) (hcf : cmpd ops = false) (su4 : SU4 K W tb i lv ops vs) (sq2 : SQ M 2) : G X 3 RX10 cX10_behindSum 4 (some .int) (Qi (fun r M1 => IM M1 ∧ Fr (fun c => c = 97 ∨ (108 ≤ c ∧ c ≤ 111)) M M1 ∧ M1 97 12 = M 97 12 ∧ M1 97 19 = M 97 19 ∧ M1 97 10 = M 97 10 ∧ M1 97 44 = M 97 44 ∧ M1 97 33 = M 97 33 ∧ ((RFs K W S E m M1 r (stSu K W tb i lv ops vs)) ∧ (RLt M1 F0 (stSu K W tb i lv ops vs)) ∧ (0 ≤ r ∧ r ≤ 4) ∧ PS M1 F0 r ∧ LO M M1 F0 ∧ TK M1 ∧ M 97 13 ≤ M1 97 13 ∧ mz (M1 97 13) (M1 97 18) r < mz (M 97 13) (M 97 18) 3))) 189 [(2, vi op), (0, vr X 97)] [] M := by
  have p12 := hi.2.2.2.1
  have sa0 := hs0.ar
  have tb0 := htk.b
  have lt0 := htk.lt
  have hf2 := hf.2.1
  have hf3 := hf.2.2.1
  have aw0 := hf.1.w hz
  have on0 := opn_nn ops
  refine g_aload_n (pc' := 190) 1 dX10_behindSum_189 rfl rfl ?_
  refine g_iload_n (pc' := 191) 0 dX10_behindSum_190 rfl rfl ?_
  refine g_bipush (pc' := 193) (v := 26) dX10_behindSum_191 rfl (by decide) ?_
  refine g_ic_ne (pc' := 196) (tgt := 205) ⟨by omega, by omega⟩ (by decide) dX10_behindSum_193 rfl rfl (fun c1 => ?_) (fun c1 => ?_)
  · refine g_iconst (pc' := 206) dX10_behindSum_205 rfl ?_
    refine g_goto (tgt := 210) dX10_behindSum_206 rfl ?_
    refine g_callVv (pc' := 213) (As := [vi 1]) (b := 97) (S := []) dX10_behindSum_210 rfl m_X10_187 w_X10_must (c_X10_must_x X M hi 1 (by decide) htk) rfl ⟨_, _, _, rfl, rfl, rfl⟩ (by decide) (by decide) rfl (Nat.le_of_ble_eq_true rfl) (fun M3 q2 => ?_)
    obtain ⟨iM3, fM30, eM3_97_12, eM3_97_19, eM3_97_21, eM3_97_24, eM3_97_27, eM3_97_28, eM3_97_10, eM3_97_44, eM3_97_33, pM3⟩ := q2
    have fM3 : Fr (fun c => c = 97 ∨ (108 ≤ c ∧ c ≤ 111)) M M3 := Fr.tr Fr.rf fM30 fi_45
    have q97_12_M3 : (M3 97 12 = M 97 12) := eM3_97_12
    have q97_19_M3 : (M3 97 19 = M 97 19) := eM3_97_19
    have q97_10_M3 : (M3 97 10 = M 97 10) := eM3_97_10
    have q97_44_M3 : (M3 97 44 = M 97 44) := eM3_97_44
    have q97_33_M3 : (M3 97 33 = M 97 33) := eM3_97_33
    have wM3_97_12 : M3 97 12 = M 97 12 := eM3_97_12
    have wM3_97_21 : M3 97 21 = M 97 21 := eM3_97_21
    have wM3_97_24 : M3 97 24 = M 97 24 := eM3_97_24
    have wM3_97_27 : M3 97 27 = M 97 27 := eM3_97_27
    have wM3_97_28 : M3 97 28 = M 97 28 := eM3_97_28
    have tzM3 : TZM M3 K W S E m := TZM.eq hz (fM30 106 (by decide)) eM3_97_12
    obtain ⟨xxM3, pM3⟩ := pM3
    have muM3 := xxM3.at_ hz hf.1 hbad (fun z => by omega)
    have CM3_108 : M3 108 = M 108 := fM30 108 (by decide)
    have CM3_109 : M3 109 = M 109 := fM30 109 (by decide)
    have CM3_110 : M3 110 = M 110 := fM30 110 (by decide)
    have CM3_111 : M3 111 = M 111 := fM30 111 (by decide)
    obtain ⟨aM3p, bM3p, cM3p, kM3p⟩ := pM3
    have tkM3 : TK M3 := kM3p
    clear kM3p
    have tbM3 := tkM3.b
    have siM3 : SI M3 F0 := SI.nx hs0 CM3_110 CM3_111 (by omega) (by omega) (by omega) (by omega)
    have hiM3 := HI.nx hh0 CM3_108 CM3_109 CM3_110 CM3_111 (by omega) (by omega)
    have sqM3 : SQ M3 2 := SQ.nx sq2 CM3_110 (by omega) (by omega)
    have loM3 : LO M M3 F0 := LO.tr (LO.rf _ _) (LO.eq CM3_108 CM3_109)
    refine g_aload_n (pc' := 214) 1 dX10_behindSum_213 rfl rfl ?_
    refine g_getI (pc' := 217) dX10_behindSum_214 rfl f_X10_154 rfl rfl (fun v4 ev4 rv4 => ?_)
    refine g_if_ne (pc' := 220) (tgt := 231) rv4 dX10_behindSum_217 rfl rfl (fun c5 => ?_) (fun c5 => ?_)
    · refine g_iconst (pc' := 232) dX10_behindSum_231 rfl ?_
      refine g_ireturn dX10_behindSum_232 ?_
      exact ⟨iM3, fM3, q97_12_M3, q97_19_M3, q97_10_M3, q97_44_M3, q97_33_M3, RFs.no (j := i) (by omega) (su4.no (by omega) (by omega) (by omega)) (by omega), (RLt.bad (by omega)), ⟨by omega, by omega⟩, (PS.bad siM3 (by omega)), loM3, tkM3, by omega, (mz_lt hbad (by omega) (by omega) (by omega))⟩
    · refine g_aload_n (pc' := 221) 1 dX10_behindSum_220 rfl rfl ?_
      refine g_iconst (pc' := 222) dX10_behindSum_221 rfl ?_
      refine g_callVv (pc' := 225) (As := [vi 5]) (b := 97) (S := []) dX10_behindSum_222 rfl m_X10_254 w_X10_settle (c_X10_settle_z X M3 iM3 5 (by decide) F0 siM3 (by omega)) rfl ⟨_, _, _, rfl, rfl, rfl⟩ (by decide) (by decide) rfl (Nat.le_of_ble_eq_true rfl) (fun M7 q6 => ?_)
      obtain ⟨iM7, fM70, eM7_97_10, eM7_97_44, eM7_97_33, eM7_97_12, eM7_97_19, eM7_97_24, eM7_97_28, eM7_97_13, eM7_97_14, eM7_97_15, eM7_97_16, eM7_97_18, eM7_97_17, pM7⟩ := q6
      have fM7 : Fr (fun c => c = 97 ∨ (108 ≤ c ∧ c ≤ 111)) M M7 := Fr.tr fM3 fM70 fi_46
      have q97_12_M7 : (M7 97 12 = M 97 12) := eM7_97_12.trans q97_12_M3
      have q97_19_M7 : (M7 97 19 = M 97 19) := eM7_97_19.trans q97_19_M3
      have q97_10_M7 : (M7 97 10 = M 97 10) := eM7_97_10.trans q97_10_M3
      have q97_44_M7 : (M7 97 44 = M 97 44) := eM7_97_44.trans q97_44_M3
      have q97_33_M7 : (M7 97 33 = M 97 33) := eM7_97_33.trans q97_33_M3
      have wM7_97_12 : M7 97 12 = M3 97 12 := eM7_97_12
      have wM7_97_13 : M7 97 13 = M3 97 13 := eM7_97_13
      have wM7_97_14 : M7 97 14 = M3 97 14 := eM7_97_14
      have wM7_97_15 : M7 97 15 = M3 97 15 := eM7_97_15
      have wM7_97_16 : M7 97 16 = M3 97 16 := eM7_97_16
      have wM7_97_17 : M7 97 17 = M3 97 17 := eM7_97_17
      have wM7_97_18 : M7 97 18 = M3 97 18 := eM7_97_18
      have wM7_97_24 : M7 97 24 = M3 97 24 := eM7_97_24
      have wM7_97_28 : M7 97 28 = M3 97 28 := eM7_97_28
      have tzM7 : TZM M7 K W S E m := TZM.eq tzM3 (fM70 106 (by decide)) eM7_97_12
      have CM7_110 : M7 110 = M 110 := (fM70 110 (by decide)).trans CM3_110
      have CM7_111 : M7 111 = M 111 := (fM70 111 (by decide)).trans CM3_111
      have tkM7 : TK M7 := TK.eq tkM3 eM7_97_12 eM7_97_13 eM7_97_14 eM7_97_15 eM7_97_16
      obtain ⟨siM7, htM7, loM70, stM7, sxM7, rfM7⟩ := pM7
      have spM7 := stM7.1
      have saM7 := siM7.ar
      have loM7 : LO M M7 F0 := LO.tr loM3 loM70
      have hiM7 : HI M7 F0 1 := htM7 hiM3
      have sqM7 : SQ M7 2 := SQ.nx sqM3 (fM70 110 (by decide)) (by omega) (by omega)
      refine g_aload_n (pc' := 226) 1 dX10_behindSum_225 rfl rfl ?_
      refine g_iload_n (pc' := 227) 0 dX10_behindSum_226 rfl rfl ?_
      refine g_iconst (pc' := 228) dX10_behindSum_227 rfl ?_
      refine g_callVv (pc' := 231) (As := [vi op, vi 0]) (b := 97) (S := []) dX10_behindSum_228 rfl m_X10_215 w_X10_push (c_X10_push_x X M7 iM7 op ⟨by omega, by omega⟩ 0 (by decide) (by omega)) rfl ⟨_, _, _, rfl, rfl, rfl⟩ (by decide) (by decide) rfl (Nat.le_of_ble_eq_true rfl) (fun M9 q8 => ?_)
      obtain ⟨iM9, fM90, eM9_97_12, eM9_97_19, eM9_97_21, eM9_97_24, eM9_97_28, eM9_97_10, eM9_97_44, eM9_97_33, eM9_97_13, eM9_97_14, eM9_97_15, eM9_97_16, eM9_97_18, eM9_97_17, pM9⟩ := q8
      have fM9 : Fr (fun c => c = 97 ∨ (108 ≤ c ∧ c ≤ 111)) M M9 := Fr.tr fM7 fM90 fi_47
      have q97_12_M9 : (M9 97 12 = M 97 12) := eM9_97_12.trans q97_12_M7
      have q97_19_M9 : (M9 97 19 = M 97 19) := eM9_97_19.trans q97_19_M7
      have q97_10_M9 : (M9 97 10 = M 97 10) := eM9_97_10.trans q97_10_M7
      have q97_44_M9 : (M9 97 44 = M 97 44) := eM9_97_44.trans q97_44_M7
      have q97_33_M9 : (M9 97 33 = M 97 33) := eM9_97_33.trans q97_33_M7
      have wM9_97_12 : M9 97 12 = M7 97 12 := eM9_97_12
      have wM9_97_13 : M9 97 13 = M7 97 13 := eM9_97_13
      have wM9_97_14 : M9 97 14 = M7 97 14 := eM9_97_14
      have wM9_97_15 : M9 97 15 = M7 97 15 := eM9_97_15
      have wM9_97_16 : M9 97 16 = M7 97 16 := eM9_97_16
      have wM9_97_17 : M9 97 17 = M7 97 17 := eM9_97_17
      have wM9_97_18 : M9 97 18 = M7 97 18 := eM9_97_18
      have wM9_97_21 : M9 97 21 = M7 97 21 := eM9_97_21
      have wM9_97_24 : M9 97 24 = M7 97 24 := eM9_97_24
      have wM9_97_28 : M9 97 28 = M7 97 28 := eM9_97_28
      have tzM9 : TZM M9 K W S E m := TZM.eq tzM7 (fM90 106 (by decide)) eM9_97_12
      have CM9_108 : M9 108 = M7 108 := fM90 108 (by decide)
      have CM9_109 : M9 109 = M7 109 := fM90 109 (by decide)
      have CM9_110 : M9 110 = ms (M7 110) (M7 97 27).toNat op := by rw [pM9.1, show M7 97 27 = M7 97 27 by omega]
      have CM9_111 : M9 111 = ms (M7 111) (M7 97 27).toNat 0 := by rw [pM9.2.1, show M7 97 27 = M7 97 27 by omega]
      have tkM9 : TK M9 := TK.eq tkM7 eM9_97_12 eM9_97_13 eM9_97_14 eM9_97_15 eM9_97_16
      have ppM9 := pM9.2.2
      clear pM9
      refine g_iconst (pc' := 232) dX10_behindSum_231 rfl ?_
      refine g_ireturn dX10_behindSum_232 ?_
      exact ⟨iM9, fM9, q97_12_M9, q97_19_M9, q97_10_M9, q97_44_M9, q97_33_M9, RFs.ok (i := i + 1) (lv := lv) (ops := op :: (stl 5 ops vs).1) (vs := (stl 5 ops vs).2) (by omega) (su4.yes (by omega)) (RFo.psh (vs := vs) (show PIL (M3 110) (M3 97 27).toNat ops by rw [CM3_110, show M3 97 27 = M 97 27 by omega]; exact hf.2.2.2) (show M3 97 28 = opn ops by omega) stM7 (fM70 110 (by decide)) (by omega) (by omega) CM9_110 (by omega) (by omega) (by omega) (AT.eq (muM3.resolve_right (fun z => z.1 (by omega))).2.2 (by omega) (by omega) (by omega) (by omega) (by omega))), (RLt.p (t := 1) (i := i + 1) (lv := lv) (ops := op :: (stl 5 ops vs).1) (vs := (stl 5 ops vs).2) (su4.yes (by omega)) (Or.inr rfl) (RLM.op (rfM7 _ _ (show RLM M3 F0 ops vs from ⟨by rw [CM3_110, show M3 97 27 = M 97 27 by omega]; exact hf.2.2.2, hrq.eq CM3_108 CM3_109 CM3_111 (by omega)⟩)).1 (by omega) CM9_108 CM9_109 CM9_111 (by omega) (by omega) (fun _ => NTo.c5 (stl_tlo _ _) (by rw [stl_cmpd]; exact hcf))) (fun z => absurd z (by decide))), ⟨by omega, by omega⟩, (PS.mk_ (q := 0) (SI.cmp hs0 siM7 stM7 sxM7 CM3_110 (by omega) (by omega) (fM70 110 (by decide)) (by omega) (by omega) CM9_110 CM9_111 (by omega) (by omega) (by omega) (by omega)) (HI.push siM7 hiM7 (by omega) CM9_108 CM9_109 CM9_110 CM9_111 (by omega) (by omega)) (SQ.push sqM7 CM9_110 (by omega) (by omega) (by omega) (by omega)) (by omega)), (LO.tr loM7 (LO.eq CM9_108 CM9_109)), tkM9, by omega, (mz_lt hbad (by omega) (by omega) (by omega))⟩
  · refine g_aload_n (pc' := 197) 1 dX10_behindSum_196 rfl rfl ?_
    refine g_bipush (pc' := 199) (v := 61) dX10_behindSum_197 rfl (by decide) ?_
    refine g_callVip (pc' := 202) (As := [vi 61]) (b := 97) (S := [vr X 97]) dX10_behindSum_199 rfl m_X10_221 w_X10_isSign (c_X10_isSign_x X M hi 61 (by decide)) rfl ⟨_, _, _, rfl, rfl, rfl⟩ (by decide) (by decide) rfl (Nat.le_of_ble_eq_true rfl) (fun z11 q10 => ?_)
    refine g_if_eq (pc' := 205) (tgt := 209) ⟨by omega, by omega⟩ dX10_behindSum_202 rfl rfl (fun c12 => ?_) (fun c12 => ?_)
    · replace q10 := q10.resolve_left (fun h => absurd (c12.symm.trans h.1) (by decide))
      refine g_iconst (pc' := 210) dX10_behindSum_209 rfl ?_
      refine g_callVv (pc' := 213) (As := [vi 0]) (b := 97) (S := []) dX10_behindSum_210 rfl m_X10_187 w_X10_must (c_X10_must_x X M hi 0 (by decide) htk) rfl ⟨_, _, _, rfl, rfl, rfl⟩ (by decide) (by decide) rfl (Nat.le_of_ble_eq_true rfl) (fun M14 q13 => ?_)
      obtain ⟨iM14, fM140, eM14_97_12, eM14_97_19, eM14_97_21, eM14_97_24, eM14_97_27, eM14_97_28, eM14_97_10, eM14_97_44, eM14_97_33, pM14⟩ := q13
      have fM14 : Fr (fun c => c = 97 ∨ (108 ≤ c ∧ c ≤ 111)) M M14 := Fr.tr Fr.rf fM140 fi_45
      have q97_12_M14 : (M14 97 12 = M 97 12) := eM14_97_12
      have q97_19_M14 : (M14 97 19 = M 97 19) := eM14_97_19
      have q97_10_M14 : (M14 97 10 = M 97 10) := eM14_97_10
      have q97_44_M14 : (M14 97 44 = M 97 44) := eM14_97_44
      have q97_33_M14 : (M14 97 33 = M 97 33) := eM14_97_33
      have wM14_97_12 : M14 97 12 = M 97 12 := eM14_97_12
      have wM14_97_21 : M14 97 21 = M 97 21 := eM14_97_21
      have wM14_97_24 : M14 97 24 = M 97 24 := eM14_97_24
      have wM14_97_27 : M14 97 27 = M 97 27 := eM14_97_27
      have wM14_97_28 : M14 97 28 = M 97 28 := eM14_97_28
      have tzM14 : TZM M14 K W S E m := TZM.eq hz (fM140 106 (by decide)) eM14_97_12
      obtain ⟨xxM14, pM14⟩ := pM14
      have muM14 := xxM14.at_ hz hf.1 hbad (fun z => by omega)
      have CM14_108 : M14 108 = M 108 := fM140 108 (by decide)
      have CM14_109 : M14 109 = M 109 := fM140 109 (by decide)
      have CM14_110 : M14 110 = M 110 := fM140 110 (by decide)
      have CM14_111 : M14 111 = M 111 := fM140 111 (by decide)
      obtain ⟨aM14p, bM14p, cM14p, kM14p⟩ := pM14
      have tkM14 : TK M14 := kM14p
      clear kM14p
      have tbM14 := tkM14.b
      have siM14 : SI M14 F0 := SI.nx hs0 CM14_110 CM14_111 (by omega) (by omega) (by omega) (by omega)
      have hiM14 := HI.nx hh0 CM14_108 CM14_109 CM14_110 CM14_111 (by omega) (by omega)
      have sqM14 : SQ M14 2 := SQ.nx sq2 CM14_110 (by omega) (by omega)
      have loM14 : LO M M14 F0 := LO.tr (LO.rf _ _) (LO.eq CM14_108 CM14_109)
      refine g_aload_n (pc' := 214) 1 dX10_behindSum_213 rfl rfl ?_
      refine g_getI (pc' := 217) dX10_behindSum_214 rfl f_X10_154 rfl rfl (fun v15 ev15 rv15 => ?_)
      refine g_if_ne (pc' := 220) (tgt := 231) rv15 dX10_behindSum_217 rfl rfl (fun c16 => ?_) (fun c16 => ?_)
      · refine g_iconst (pc' := 232) dX10_behindSum_231 rfl ?_
        refine g_ireturn dX10_behindSum_232 ?_
        exact ⟨iM14, fM14, q97_12_M14, q97_19_M14, q97_10_M14, q97_44_M14, q97_33_M14, RFs.no (j := i) (by omega) (su4.no (by omega) (by omega) (by omega)) (by omega), (RLt.bad (by omega)), ⟨by omega, by omega⟩, (PS.bad siM14 (by omega)), loM14, tkM14, by omega, (mz_lt hbad (by omega) (by omega) (by omega))⟩
      · refine g_aload_n (pc' := 221) 1 dX10_behindSum_220 rfl rfl ?_
        refine g_iconst (pc' := 222) dX10_behindSum_221 rfl ?_
        refine g_callVv (pc' := 225) (As := [vi 5]) (b := 97) (S := []) dX10_behindSum_222 rfl m_X10_254 w_X10_settle (c_X10_settle_z X M14 iM14 5 (by decide) F0 siM14 (by omega)) rfl ⟨_, _, _, rfl, rfl, rfl⟩ (by decide) (by decide) rfl (Nat.le_of_ble_eq_true rfl) (fun M18 q17 => ?_)
        obtain ⟨iM18, fM180, eM18_97_10, eM18_97_44, eM18_97_33, eM18_97_12, eM18_97_19, eM18_97_24, eM18_97_28, eM18_97_13, eM18_97_14, eM18_97_15, eM18_97_16, eM18_97_18, eM18_97_17, pM18⟩ := q17
        have fM18 : Fr (fun c => c = 97 ∨ (108 ≤ c ∧ c ≤ 111)) M M18 := Fr.tr fM14 fM180 fi_46
        have q97_12_M18 : (M18 97 12 = M 97 12) := eM18_97_12.trans q97_12_M14
        have q97_19_M18 : (M18 97 19 = M 97 19) := eM18_97_19.trans q97_19_M14
        have q97_10_M18 : (M18 97 10 = M 97 10) := eM18_97_10.trans q97_10_M14
        have q97_44_M18 : (M18 97 44 = M 97 44) := eM18_97_44.trans q97_44_M14
        have q97_33_M18 : (M18 97 33 = M 97 33) := eM18_97_33.trans q97_33_M14
        have wM18_97_12 : M18 97 12 = M14 97 12 := eM18_97_12
        have wM18_97_13 : M18 97 13 = M14 97 13 := eM18_97_13
        have wM18_97_14 : M18 97 14 = M14 97 14 := eM18_97_14
        have wM18_97_15 : M18 97 15 = M14 97 15 := eM18_97_15
        have wM18_97_16 : M18 97 16 = M14 97 16 := eM18_97_16
        have wM18_97_17 : M18 97 17 = M14 97 17 := eM18_97_17
        have wM18_97_18 : M18 97 18 = M14 97 18 := eM18_97_18
        have wM18_97_24 : M18 97 24 = M14 97 24 := eM18_97_24
        have wM18_97_28 : M18 97 28 = M14 97 28 := eM18_97_28
        have tzM18 : TZM M18 K W S E m := TZM.eq tzM14 (fM180 106 (by decide)) eM18_97_12
        have CM18_110 : M18 110 = M 110 := (fM180 110 (by decide)).trans CM14_110
        have CM18_111 : M18 111 = M 111 := (fM180 111 (by decide)).trans CM14_111
        have tkM18 : TK M18 := TK.eq tkM14 eM18_97_12 eM18_97_13 eM18_97_14 eM18_97_15 eM18_97_16
        obtain ⟨siM18, htM18, loM180, stM18, sxM18, rfM18⟩ := pM18
        have spM18 := stM18.1
        have saM18 := siM18.ar
        have loM18 : LO M M18 F0 := LO.tr loM14 loM180
        have hiM18 : HI M18 F0 1 := htM18 hiM14
        have sqM18 : SQ M18 2 := SQ.nx sqM14 (fM180 110 (by decide)) (by omega) (by omega)
        refine g_aload_n (pc' := 226) 1 dX10_behindSum_225 rfl rfl ?_
        refine g_iload_n (pc' := 227) 0 dX10_behindSum_226 rfl rfl ?_
        refine g_iconst (pc' := 228) dX10_behindSum_227 rfl ?_
        refine g_callVv (pc' := 231) (As := [vi op, vi 0]) (b := 97) (S := []) dX10_behindSum_228 rfl m_X10_215 w_X10_push (c_X10_push_x X M18 iM18 op ⟨by omega, by omega⟩ 0 (by decide) (by omega)) rfl ⟨_, _, _, rfl, rfl, rfl⟩ (by decide) (by decide) rfl (Nat.le_of_ble_eq_true rfl) (fun M20 q19 => ?_)
        obtain ⟨iM20, fM200, eM20_97_12, eM20_97_19, eM20_97_21, eM20_97_24, eM20_97_28, eM20_97_10, eM20_97_44, eM20_97_33, eM20_97_13, eM20_97_14, eM20_97_15, eM20_97_16, eM20_97_18, eM20_97_17, pM20⟩ := q19
        have fM20 : Fr (fun c => c = 97 ∨ (108 ≤ c ∧ c ≤ 111)) M M20 := Fr.tr fM18 fM200 fi_47
        have q97_12_M20 : (M20 97 12 = M 97 12) := eM20_97_12.trans q97_12_M18
        have q97_19_M20 : (M20 97 19 = M 97 19) := eM20_97_19.trans q97_19_M18
        have q97_10_M20 : (M20 97 10 = M 97 10) := eM20_97_10.trans q97_10_M18
        have q97_44_M20 : (M20 97 44 = M 97 44) := eM20_97_44.trans q97_44_M18
        have q97_33_M20 : (M20 97 33 = M 97 33) := eM20_97_33.trans q97_33_M18
        have wM20_97_12 : M20 97 12 = M18 97 12 := eM20_97_12
        have wM20_97_13 : M20 97 13 = M18 97 13 := eM20_97_13
        have wM20_97_14 : M20 97 14 = M18 97 14 := eM20_97_14
        have wM20_97_15 : M20 97 15 = M18 97 15 := eM20_97_15
        have wM20_97_16 : M20 97 16 = M18 97 16 := eM20_97_16
        have wM20_97_17 : M20 97 17 = M18 97 17 := eM20_97_17
        have wM20_97_18 : M20 97 18 = M18 97 18 := eM20_97_18
        have wM20_97_21 : M20 97 21 = M18 97 21 := eM20_97_21
        have wM20_97_24 : M20 97 24 = M18 97 24 := eM20_97_24
        have wM20_97_28 : M20 97 28 = M18 97 28 := eM20_97_28
        have tzM20 : TZM M20 K W S E m := TZM.eq tzM18 (fM200 106 (by decide)) eM20_97_12
        have CM20_108 : M20 108 = M18 108 := fM200 108 (by decide)
        have CM20_109 : M20 109 = M18 109 := fM200 109 (by decide)
        have CM20_110 : M20 110 = ms (M18 110) (M18 97 27).toNat op := by rw [pM20.1, show M18 97 27 = M18 97 27 by omega]
        have CM20_111 : M20 111 = ms (M18 111) (M18 97 27).toNat 0 := by rw [pM20.2.1, show M18 97 27 = M18 97 27 by omega]
        have tkM20 : TK M20 := TK.eq tkM18 eM20_97_12 eM20_97_13 eM20_97_14 eM20_97_15 eM20_97_16
        have ppM20 := pM20.2.2
        clear pM20
        refine g_iconst (pc' := 232) dX10_behindSum_231 rfl ?_
        refine g_ireturn dX10_behindSum_232 ?_
        exact ⟨iM20, fM20, q97_12_M20, q97_19_M20, q97_10_M20, q97_44_M20, q97_33_M20, RFs.ok (i := i + 1) (lv := lv) (ops := op :: (stl 5 ops vs).1) (vs := (stl 5 ops vs).2) (by omega) (su4.yes (by omega)) (RFo.psh (vs := vs) (show PIL (M14 110) (M14 97 27).toNat ops by rw [CM14_110, show M14 97 27 = M 97 27 by omega]; exact hf.2.2.2) (show M14 97 28 = opn ops by omega) stM18 (fM180 110 (by decide)) (by omega) (by omega) CM20_110 (by omega) (by omega) (by omega) (AT.eq (muM14.resolve_right (fun z => z.1 (by omega))).2.2 (by omega) (by omega) (by omega) (by omega) (by omega))), (RLt.p (t := 1) (i := i + 1) (lv := lv) (ops := op :: (stl 5 ops vs).1) (vs := (stl 5 ops vs).2) (su4.yes (by omega)) (Or.inr rfl) (RLM.op (rfM18 _ _ (show RLM M14 F0 ops vs from ⟨by rw [CM14_110, show M14 97 27 = M 97 27 by omega]; exact hf.2.2.2, hrq.eq CM14_108 CM14_109 CM14_111 (by omega)⟩)).1 (by omega) CM20_108 CM20_109 CM20_111 (by omega) (by omega) (fun _ => NTo.c5 (stl_tlo _ _) (by rw [stl_cmpd]; exact hcf))) (fun z => absurd z (by decide))), ⟨by omega, by omega⟩, (PS.mk_ (q := 0) (SI.cmp hs0 siM18 stM18 sxM18 CM14_110 (by omega) (by omega) (fM180 110 (by decide)) (by omega) (by omega) CM20_110 CM20_111 (by omega) (by omega) (by omega) (by omega)) (HI.push siM18 hiM18 (by omega) CM20_108 CM20_109 CM20_110 CM20_111 (by omega) (by omega)) (SQ.push sqM18 CM20_110 (by omega) (by omega) (by omega) (by omega)) (by omega)), (LO.tr loM18 (LO.eq CM20_108 CM20_109)), tkM20, by omega, (mz_lt hbad (by omega) (by omega) (by omega))⟩
    · replace q10 := q10.resolve_right (fun h => c12 h.1)
      refine g_iconst (pc' := 206) dX10_behindSum_205 rfl ?_
      refine g_goto (tgt := 210) dX10_behindSum_206 rfl ?_
      refine g_callVv (pc' := 213) (As := [vi 1]) (b := 97) (S := []) dX10_behindSum_210 rfl m_X10_187 w_X10_must (c_X10_must_x X M hi 1 (by decide) htk) rfl ⟨_, _, _, rfl, rfl, rfl⟩ (by decide) (by decide) rfl (Nat.le_of_ble_eq_true rfl) (fun M22 q21 => ?_)
      obtain ⟨iM22, fM220, eM22_97_12, eM22_97_19, eM22_97_21, eM22_97_24, eM22_97_27, eM22_97_28, eM22_97_10, eM22_97_44, eM22_97_33, pM22⟩ := q21
      have fM22 : Fr (fun c => c = 97 ∨ (108 ≤ c ∧ c ≤ 111)) M M22 := Fr.tr Fr.rf fM220 fi_45
      have q97_12_M22 : (M22 97 12 = M 97 12) := eM22_97_12
      have q97_19_M22 : (M22 97 19 = M 97 19) := eM22_97_19
      have q97_10_M22 : (M22 97 10 = M 97 10) := eM22_97_10
      have q97_44_M22 : (M22 97 44 = M 97 44) := eM22_97_44
      have q97_33_M22 : (M22 97 33 = M 97 33) := eM22_97_33
      have wM22_97_12 : M22 97 12 = M 97 12 := eM22_97_12
      have wM22_97_21 : M22 97 21 = M 97 21 := eM22_97_21
      have wM22_97_24 : M22 97 24 = M 97 24 := eM22_97_24
      have wM22_97_27 : M22 97 27 = M 97 27 := eM22_97_27
      have wM22_97_28 : M22 97 28 = M 97 28 := eM22_97_28
      have tzM22 : TZM M22 K W S E m := TZM.eq hz (fM220 106 (by decide)) eM22_97_12
      obtain ⟨xxM22, pM22⟩ := pM22
      have muM22 := xxM22.at_ hz hf.1 hbad (fun z => by omega)
      have CM22_108 : M22 108 = M 108 := fM220 108 (by decide)
      have CM22_109 : M22 109 = M 109 := fM220 109 (by decide)
      have CM22_110 : M22 110 = M 110 := fM220 110 (by decide)
      have CM22_111 : M22 111 = M 111 := fM220 111 (by decide)
      obtain ⟨aM22p, bM22p, cM22p, kM22p⟩ := pM22
      have tkM22 : TK M22 := kM22p
      clear kM22p
      have tbM22 := tkM22.b
      have siM22 : SI M22 F0 := SI.nx hs0 CM22_110 CM22_111 (by omega) (by omega) (by omega) (by omega)
      have hiM22 := HI.nx hh0 CM22_108 CM22_109 CM22_110 CM22_111 (by omega) (by omega)
      have sqM22 : SQ M22 2 := SQ.nx sq2 CM22_110 (by omega) (by omega)
      have loM22 : LO M M22 F0 := LO.tr (LO.rf _ _) (LO.eq CM22_108 CM22_109)
      refine g_aload_n (pc' := 214) 1 dX10_behindSum_213 rfl rfl ?_
      refine g_getI (pc' := 217) dX10_behindSum_214 rfl f_X10_154 rfl rfl (fun v23 ev23 rv23 => ?_)
      refine g_if_ne (pc' := 220) (tgt := 231) rv23 dX10_behindSum_217 rfl rfl (fun c24 => ?_) (fun c24 => ?_)
      · refine g_iconst (pc' := 232) dX10_behindSum_231 rfl ?_
        refine g_ireturn dX10_behindSum_232 ?_
        exact ⟨iM22, fM22, q97_12_M22, q97_19_M22, q97_10_M22, q97_44_M22, q97_33_M22, RFs.no (j := i) (by omega) (su4.no (by omega) (by omega) (by omega)) (by omega), (RLt.bad (by omega)), ⟨by omega, by omega⟩, (PS.bad siM22 (by omega)), loM22, tkM22, by omega, (mz_lt hbad (by omega) (by omega) (by omega))⟩
      · refine g_aload_n (pc' := 221) 1 dX10_behindSum_220 rfl rfl ?_
        refine g_iconst (pc' := 222) dX10_behindSum_221 rfl ?_
        refine g_callVv (pc' := 225) (As := [vi 5]) (b := 97) (S := []) dX10_behindSum_222 rfl m_X10_254 w_X10_settle (c_X10_settle_z X M22 iM22 5 (by decide) F0 siM22 (by omega)) rfl ⟨_, _, _, rfl, rfl, rfl⟩ (by decide) (by decide) rfl (Nat.le_of_ble_eq_true rfl) (fun M26 q25 => ?_)
        obtain ⟨iM26, fM260, eM26_97_10, eM26_97_44, eM26_97_33, eM26_97_12, eM26_97_19, eM26_97_24, eM26_97_28, eM26_97_13, eM26_97_14, eM26_97_15, eM26_97_16, eM26_97_18, eM26_97_17, pM26⟩ := q25
        have fM26 : Fr (fun c => c = 97 ∨ (108 ≤ c ∧ c ≤ 111)) M M26 := Fr.tr fM22 fM260 fi_46
        have q97_12_M26 : (M26 97 12 = M 97 12) := eM26_97_12.trans q97_12_M22
        have q97_19_M26 : (M26 97 19 = M 97 19) := eM26_97_19.trans q97_19_M22
        have q97_10_M26 : (M26 97 10 = M 97 10) := eM26_97_10.trans q97_10_M22
        have q97_44_M26 : (M26 97 44 = M 97 44) := eM26_97_44.trans q97_44_M22
        have q97_33_M26 : (M26 97 33 = M 97 33) := eM26_97_33.trans q97_33_M22
        have wM26_97_12 : M26 97 12 = M22 97 12 := eM26_97_12
        have wM26_97_13 : M26 97 13 = M22 97 13 := eM26_97_13
        have wM26_97_14 : M26 97 14 = M22 97 14 := eM26_97_14
        have wM26_97_15 : M26 97 15 = M22 97 15 := eM26_97_15
        have wM26_97_16 : M26 97 16 = M22 97 16 := eM26_97_16
        have wM26_97_17 : M26 97 17 = M22 97 17 := eM26_97_17
        have wM26_97_18 : M26 97 18 = M22 97 18 := eM26_97_18
        have wM26_97_24 : M26 97 24 = M22 97 24 := eM26_97_24
        have wM26_97_28 : M26 97 28 = M22 97 28 := eM26_97_28
        have tzM26 : TZM M26 K W S E m := TZM.eq tzM22 (fM260 106 (by decide)) eM26_97_12
        have CM26_110 : M26 110 = M 110 := (fM260 110 (by decide)).trans CM22_110
        have CM26_111 : M26 111 = M 111 := (fM260 111 (by decide)).trans CM22_111
        have tkM26 : TK M26 := TK.eq tkM22 eM26_97_12 eM26_97_13 eM26_97_14 eM26_97_15 eM26_97_16
        obtain ⟨siM26, htM26, loM260, stM26, sxM26, rfM26⟩ := pM26
        have spM26 := stM26.1
        have saM26 := siM26.ar
        have loM26 : LO M M26 F0 := LO.tr loM22 loM260
        have hiM26 : HI M26 F0 1 := htM26 hiM22
        have sqM26 : SQ M26 2 := SQ.nx sqM22 (fM260 110 (by decide)) (by omega) (by omega)
        refine g_aload_n (pc' := 226) 1 dX10_behindSum_225 rfl rfl ?_
        refine g_iload_n (pc' := 227) 0 dX10_behindSum_226 rfl rfl ?_
        refine g_iconst (pc' := 228) dX10_behindSum_227 rfl ?_
        refine g_callVv (pc' := 231) (As := [vi op, vi 0]) (b := 97) (S := []) dX10_behindSum_228 rfl m_X10_215 w_X10_push (c_X10_push_x X M26 iM26 op ⟨by omega, by omega⟩ 0 (by decide) (by omega)) rfl ⟨_, _, _, rfl, rfl, rfl⟩ (by decide) (by decide) rfl (Nat.le_of_ble_eq_true rfl) (fun M28 q27 => ?_)
        obtain ⟨iM28, fM280, eM28_97_12, eM28_97_19, eM28_97_21, eM28_97_24, eM28_97_28, eM28_97_10, eM28_97_44, eM28_97_33, eM28_97_13, eM28_97_14, eM28_97_15, eM28_97_16, eM28_97_18, eM28_97_17, pM28⟩ := q27
        have fM28 : Fr (fun c => c = 97 ∨ (108 ≤ c ∧ c ≤ 111)) M M28 := Fr.tr fM26 fM280 fi_47
        have q97_12_M28 : (M28 97 12 = M 97 12) := eM28_97_12.trans q97_12_M26
        have q97_19_M28 : (M28 97 19 = M 97 19) := eM28_97_19.trans q97_19_M26
        have q97_10_M28 : (M28 97 10 = M 97 10) := eM28_97_10.trans q97_10_M26
        have q97_44_M28 : (M28 97 44 = M 97 44) := eM28_97_44.trans q97_44_M26
        have q97_33_M28 : (M28 97 33 = M 97 33) := eM28_97_33.trans q97_33_M26
        have wM28_97_12 : M28 97 12 = M26 97 12 := eM28_97_12
        have wM28_97_13 : M28 97 13 = M26 97 13 := eM28_97_13
        have wM28_97_14 : M28 97 14 = M26 97 14 := eM28_97_14
        have wM28_97_15 : M28 97 15 = M26 97 15 := eM28_97_15
        have wM28_97_16 : M28 97 16 = M26 97 16 := eM28_97_16
        have wM28_97_17 : M28 97 17 = M26 97 17 := eM28_97_17
        have wM28_97_18 : M28 97 18 = M26 97 18 := eM28_97_18
        have wM28_97_21 : M28 97 21 = M26 97 21 := eM28_97_21
        have wM28_97_24 : M28 97 24 = M26 97 24 := eM28_97_24
        have wM28_97_28 : M28 97 28 = M26 97 28 := eM28_97_28
        have tzM28 : TZM M28 K W S E m := TZM.eq tzM26 (fM280 106 (by decide)) eM28_97_12
        have CM28_108 : M28 108 = M26 108 := fM280 108 (by decide)
        have CM28_109 : M28 109 = M26 109 := fM280 109 (by decide)
        have CM28_110 : M28 110 = ms (M26 110) (M26 97 27).toNat op := by rw [pM28.1, show M26 97 27 = M26 97 27 by omega]
        have CM28_111 : M28 111 = ms (M26 111) (M26 97 27).toNat 0 := by rw [pM28.2.1, show M26 97 27 = M26 97 27 by omega]
        have tkM28 : TK M28 := TK.eq tkM26 eM28_97_12 eM28_97_13 eM28_97_14 eM28_97_15 eM28_97_16
        have ppM28 := pM28.2.2
        clear pM28
        refine g_iconst (pc' := 232) dX10_behindSum_231 rfl ?_
        refine g_ireturn dX10_behindSum_232 ?_
        exact ⟨iM28, fM28, q97_12_M28, q97_19_M28, q97_10_M28, q97_44_M28, q97_33_M28, RFs.ok (i := i + 1) (lv := lv) (ops := op :: (stl 5 ops vs).1) (vs := (stl 5 ops vs).2) (by omega) (su4.yes (by omega)) (RFo.psh (vs := vs) (show PIL (M22 110) (M22 97 27).toNat ops by rw [CM22_110, show M22 97 27 = M 97 27 by omega]; exact hf.2.2.2) (show M22 97 28 = opn ops by omega) stM26 (fM260 110 (by decide)) (by omega) (by omega) CM28_110 (by omega) (by omega) (by omega) (AT.eq (muM22.resolve_right (fun z => z.1 (by omega))).2.2 (by omega) (by omega) (by omega) (by omega) (by omega))), (RLt.p (t := 1) (i := i + 1) (lv := lv) (ops := op :: (stl 5 ops vs).1) (vs := (stl 5 ops vs).2) (su4.yes (by omega)) (Or.inr rfl) (RLM.op (rfM26 _ _ (show RLM M22 F0 ops vs from ⟨by rw [CM22_110, show M22 97 27 = M 97 27 by omega]; exact hf.2.2.2, hrq.eq CM22_108 CM22_109 CM22_111 (by omega)⟩)).1 (by omega) CM28_108 CM28_109 CM28_111 (by omega) (by omega) (fun _ => NTo.c5 (stl_tlo _ _) (by rw [stl_cmpd]; exact hcf))) (fun z => absurd z (by decide))), ⟨by omega, by omega⟩, (PS.mk_ (q := 0) (SI.cmp hs0 siM26 stM26 sxM26 CM22_110 (by omega) (by omega) (fM260 110 (by decide)) (by omega) (by omega) CM28_110 CM28_111 (by omega) (by omega) (by omega) (by omega)) (HI.push siM26 hiM26 (by omega) CM28_108 CM28_109 CM28_110 CM28_111 (by omega) (by omega)) (SQ.push sqM26 CM28_110 (by omega) (by omega) (by omega) (by omega)) (by omega)), (LO.tr loM26 (LO.eq CM28_108 CM28_109)), tkM28, by omega, (mz_lt hbad (by omega) (by omega) (by omega))⟩
set_option maxHeartbeats 4000000 in
set_option maxRecDepth 100000 in
theorem j_X10_behindSum_z_58 (X : Cx) (M : Mm) (hi : IM M) (a : Int) (ha : inI a) (F0 : Int) (hs0 : SI M F0) (hh0 : HI M F0 1) (hq0 : SQ M 3) (htk : TK M) (hbad : M 97 18 = 0) (K W S E : Nat → Int) (m i : Nat) (lv : Int) (ops : List Int) (vs : List Mng) (hz : TZM M K W S E m) (hf : RFo K W S E m M i lv ops) (hrq : RLz M F0 ops vs) (tb : Bool) (hta : (a ≠ 0 ∧ tb = true) ∨ (a = 0 ∧ tb = false)) (op : Int) (hop : op = -1 ∨ (20 ≤ op ∧ op ≤ 23 ∧ M 97 15 = 3)) (hop2 : ((op = 20 ∧ isSg K W i 43) ∨ (op = 21 ∧ isSg K W i 45) ∨ (op = 22 ∧ isSg K W i 42) ∨ (op = 23 ∧ isSg K W i 47)) ∨ (op = -1 ∧ ¬ isSg K W i 43 ∧ ¬ isSg K W i 45 ∧ ¬ isSg K W i 42 ∧ ¬ isSg K W i 47)) : G X 3 RX10 cX10_behindSum 4 (some .int) (Qi (fun r M1 => IM M1 ∧ Fr (fun c => c = 97 ∨ (108 ≤ c ∧ c ≤ 111)) M M1 ∧ M1 97 12 = M 97 12 ∧ M1 97 19 = M 97 19 ∧ M1 97 10 = M 97 10 ∧ M1 97 44 = M 97 44 ∧ M1 97 33 = M 97 33 ∧ ((RFs K W S E m M1 r (stSu K W tb i lv ops vs)) ∧ (RLt M1 F0 (stSu K W tb i lv ops vs)) ∧ (0 ≤ r ∧ r ≤ 4) ∧ PS M1 F0 r ∧ LO M M1 F0 ∧ TK M1 ∧ M 97 13 ≤ M1 97 13 ∧ mz (M1 97 13) (M1 97 18) r < mz (M 97 13) (M 97 18) 3))) 58 [(2, vi op), (0, vr X 97), (1, vi a)] [] M := by
  have p12 := hi.2.2.2.1
  have sa0 := hs0.ar
  have tb0 := htk.b
  have lt0 := htk.lt
  have hf2 := hf.2.1
  have hf3 := hf.2.2.1
  have aw0 := hf.1.w hz
  have on0 := opn_nn ops
  refine g_iload_n (pc' := 59) 0 dX10_behindSum_58 rfl rfl ?_
  refine g_iconst (pc' := 60) dX10_behindSum_59 rfl ?_
  refine g_ic_eq (pc' := 63) (tgt := 83) ⟨by omega, by omega⟩ (by decide) dX10_behindSum_60 rfl rfl (fun c1 => ?_) (fun c1 => ?_)
  · refine g_aload_n (pc' := 84) 1 dX10_behindSum_83 rfl rfl ?_
    refine g_callVip (pc' := 87) (As := []) (b := 97) (S := []) dX10_behindSum_84 rfl m_X10_257 w_X10_inner (c_X10_inner X M hi F0 hs0) rfl ⟨_, _, _, rfl, rfl, rfl⟩ (by decide) (by decide) rfl (Nat.le_of_ble_eq_true rfl) (fun z3 q2 => ?_)
    have hin := hf.2.2.2.inq (by omega) q2.1
    refine g_istore_n (pc' := 88) (i := 3) (L' := [(3, vi z3), (2, vi op), (0, vr X 97), (1, vi a)]) dX10_behindSum_87 rfl rfl (by decide) rfl ?_
    refine g_iload_n (pc' := 89) 0 dX10_behindSum_88 rfl rfl ?_
    refine g_bipush (pc' := 91) (v := 31) dX10_behindSum_89 rfl (by decide) ?_
    refine g_ic_ne (pc' := 94) (tgt := 138) ⟨by omega, by omega⟩ (by decide) dX10_behindSum_91 rfl rfl (fun c4 => ?_) (fun c4 => ?_)
    · refine g_iload_n (pc' := 139) 0 dX10_behindSum_138 rfl rfl ?_
      refine g_iconst (pc' := 140) dX10_behindSum_139 rfl ?_
      refine g_ic_ne (pc' := 143) (tgt := 149) ⟨by omega, by omega⟩ (by decide) dX10_behindSum_140 rfl rfl (fun c5 => ?_) (fun c5 => ?_)
      · refine g_aload_n (pc' := 150) 2 dX10_behindSum_149 rfl rfl ?_
        refine g_callVip (pc' := 153) (As := []) (b := 97) (S := []) dX10_behindSum_150 rfl m_X10_260 w_X10_isCompared (c_X10_isCompared_x X M hi F0 hs0) rfl ⟨_, _, _, rfl, rfl, rfl⟩ (by decide) (by decide) rfl (Nat.le_of_ble_eq_true rfl) (fun z7 q6 => ?_)
        refine g_if_eq (pc' := 156) (tgt := 158) ⟨by omega, by omega⟩ dX10_behindSum_153 rfl rfl (fun c8 => ?_) (fun c8 => ?_)
        · refine g_aload_n (pc' := 159) 2 dX10_behindSum_158 rfl rfl ?_
          refine g_bipush (pc' := 161) (v := 60) dX10_behindSum_159 rfl (by decide) ?_
          refine g_callVip (pc' := 164) (As := [vi 60]) (b := 97) (S := []) dX10_behindSum_161 rfl m_X10_221 w_X10_isSign (c_X10_isSign_x X M hi 60 (by decide)) rfl ⟨_, _, _, rfl, rfl, rfl⟩ (by decide) (by decide) rfl (Nat.le_of_ble_eq_true rfl) (fun z10 q9 => ?_)
          refine g_if_eq (pc' := 167) (tgt := 172) ⟨by omega, by omega⟩ dX10_behindSum_164 rfl rfl (fun c11 => ?_) (fun c11 => ?_)
          · replace q9 := q9.resolve_left (fun h => absurd (c11.symm.trans h.1) (by decide))
            refine g_aload_n (pc' := 173) 2 dX10_behindSum_172 rfl rfl ?_
            refine g_bipush (pc' := 175) (v := 62) dX10_behindSum_173 rfl (by decide) ?_
            refine g_callVip (pc' := 178) (As := [vi 62]) (b := 97) (S := []) dX10_behindSum_175 rfl m_X10_221 w_X10_isSign (c_X10_isSign_x X M hi 62 (by decide)) rfl ⟨_, _, _, rfl, rfl, rfl⟩ (by decide) (by decide) rfl (Nat.le_of_ble_eq_true rfl) (fun z13 q12 => ?_)
            refine g_if_eq (pc' := 181) (tgt := 186) ⟨by omega, by omega⟩ dX10_behindSum_178 rfl rfl (fun c14 => ?_) (fun c14 => ?_)
            · replace q12 := q12.resolve_left (fun h => absurd (c14.symm.trans h.1) (by decide))
              refine g_bipush (pc' := 188) (v := 26) dX10_behindSum_186 rfl (by decide) ?_
              refine g_istore_n (pc' := 189) (i := 2) (L' := [(2, vi 26), (3, vi z3), (0, vr X 97), (1, vi a)]) dX10_behindSum_188 rfl rfl (by decide) rfl ?_
              refine g_sub [0, 2] rfl ?_
              exact j_X10_behindSum_z_189 X M hi a ha F0 hs0 hh0 hq0 htk hbad K W S E m i lv ops vs hz hf hrq tb hta 26 (by omega) (by omega) (by omega) ((q6.1 ops hf.2.2.2).resolve_left (fun z => by omega)).2 (SU4.mk_ (by unfold NOP; omega) (by omega) (fun y => by
                  rcases hta with w | w
                  · rw [w.2] at y; exact absurd y.2 (by decide)
                  · omega) ((q6.1 ops hf.2.2.2).resolve_left (fun z => by omega)).2) (SQ.inn hq0 q2.1 (by omega) (by omega))
            · replace q12 := q12.resolve_right (fun h => c14 h.1)
              refine g_bipush (pc' := 183) (v := 25) dX10_behindSum_181 rfl (by decide) ?_
              refine g_goto (tgt := 188) dX10_behindSum_183 rfl ?_
              refine g_istore_n (pc' := 189) (i := 2) (L' := [(2, vi 25), (3, vi z3), (0, vr X 97), (1, vi a)]) dX10_behindSum_188 rfl rfl (by decide) rfl ?_
              refine g_sub [0, 2] rfl ?_
              exact j_X10_behindSum_z_189 X M hi a ha F0 hs0 hh0 hq0 htk hbad K W S E m i lv ops vs hz hf hrq tb hta 25 (by omega) (by omega) (by omega) ((q6.1 ops hf.2.2.2).resolve_left (fun z => by omega)).2 (SU4.mk_ (by unfold NOP; omega) (by omega) (fun y => by
                  rcases hta with w | w
                  · rw [w.2] at y; exact absurd y.2 (by decide)
                  · omega) ((q6.1 ops hf.2.2.2).resolve_left (fun z => by omega)).2) (SQ.inn hq0 q2.1 (by omega) (by omega))
          · replace q9 := q9.resolve_right (fun h => c11 h.1)
            refine g_bipush (pc' := 169) (v := 24) dX10_behindSum_167 rfl (by decide) ?_
            refine g_goto (tgt := 188) dX10_behindSum_169 rfl ?_
            refine g_istore_n (pc' := 189) (i := 2) (L' := [(2, vi 24), (3, vi z3), (0, vr X 97), (1, vi a)]) dX10_behindSum_188 rfl rfl (by decide) rfl ?_
            refine g_sub [0, 2] rfl ?_
            exact j_X10_behindSum_z_189 X M hi a ha F0 hs0 hh0 hq0 htk hbad K W S E m i lv ops vs hz hf hrq tb hta 24 (by omega) (by omega) (by omega) ((q6.1 ops hf.2.2.2).resolve_left (fun z => by omega)).2 (SU4.mk_ (by unfold NOP; omega) (by omega) (fun y => by
                rcases hta with w | w
                · rw [w.2] at y; exact absurd y.2 (by decide)
                · omega) ((q6.1 ops hf.2.2.2).resolve_left (fun z => by omega)).2) (SQ.inn hq0 q2.1 (by omega) (by omega))
        · refine g_iconst (pc' := 157) dX10_behindSum_156 rfl ?_
          refine g_ireturn dX10_behindSum_157 ?_
          exact ⟨hi, Fr.rf, rfl, rfl, rfl, rfl, rfl, RFs.ok hbad (stSu_cm (by unfold NOP; omega) (by omega) (fun y => by
              rcases hta with w | w
              · rw [w.2] at y; exact absurd y.2 (by decide)
              · omega) ((q6.1 ops hf.2.2.2).resolve_right (fun z => by omega)).2) hf, (RLt.s (stSu_cm (by unfold NOP; omega) (by omega) (fun y => by
              rcases hta with w | w
              · rw [w.2] at y; exact absurd y.2 (by decide)
              · omega) ((q6.1 ops hf.2.2.2).resolve_right (fun z => by omega)).2) (by decide) hrq (fun _ => T2s.cm ((q6.1 ops hf.2.2.2).resolve_right (fun z => by omega)).2)), ⟨by omega, by omega⟩, (PS.mk_ hs0 hh0 (SQ.inn hq0 q2.1 (by omega) (by omega)) (by omega)), (LO.rf _ _), htk, by omega, (mz_lt hbad (by omega) (by omega) (by omega))⟩
      · refine g_iload_n (pc' := 144) 3 dX10_behindSum_143 rfl rfl ?_
        refine g_if_ne (pc' := 147) (tgt := 149) ha dX10_behindSum_144 rfl rfl (fun c15 => ?_) (fun c15 => ?_)
        · refine g_aload_n (pc' := 150) 2 dX10_behindSum_149 rfl rfl ?_
          refine g_callVip (pc' := 153) (As := []) (b := 97) (S := []) dX10_behindSum_150 rfl m_X10_260 w_X10_isCompared (c_X10_isCompared_x X M hi F0 hs0) rfl ⟨_, _, _, rfl, rfl, rfl⟩ (by decide) (by decide) rfl (Nat.le_of_ble_eq_true rfl) (fun z17 q16 => ?_)
          refine g_if_eq (pc' := 156) (tgt := 158) ⟨by omega, by omega⟩ dX10_behindSum_153 rfl rfl (fun c18 => ?_) (fun c18 => ?_)
          · refine g_aload_n (pc' := 159) 2 dX10_behindSum_158 rfl rfl ?_
            refine g_bipush (pc' := 161) (v := 60) dX10_behindSum_159 rfl (by decide) ?_
            refine g_callVip (pc' := 164) (As := [vi 60]) (b := 97) (S := []) dX10_behindSum_161 rfl m_X10_221 w_X10_isSign (c_X10_isSign_x X M hi 60 (by decide)) rfl ⟨_, _, _, rfl, rfl, rfl⟩ (by decide) (by decide) rfl (Nat.le_of_ble_eq_true rfl) (fun z20 q19 => ?_)
            refine g_if_eq (pc' := 167) (tgt := 172) ⟨by omega, by omega⟩ dX10_behindSum_164 rfl rfl (fun c21 => ?_) (fun c21 => ?_)
            · replace q19 := q19.resolve_left (fun h => absurd (c21.symm.trans h.1) (by decide))
              refine g_aload_n (pc' := 173) 2 dX10_behindSum_172 rfl rfl ?_
              refine g_bipush (pc' := 175) (v := 62) dX10_behindSum_173 rfl (by decide) ?_
              refine g_callVip (pc' := 178) (As := [vi 62]) (b := 97) (S := []) dX10_behindSum_175 rfl m_X10_221 w_X10_isSign (c_X10_isSign_x X M hi 62 (by decide)) rfl ⟨_, _, _, rfl, rfl, rfl⟩ (by decide) (by decide) rfl (Nat.le_of_ble_eq_true rfl) (fun z23 q22 => ?_)
              refine g_if_eq (pc' := 181) (tgt := 186) ⟨by omega, by omega⟩ dX10_behindSum_178 rfl rfl (fun c24 => ?_) (fun c24 => ?_)
              · replace q22 := q22.resolve_left (fun h => absurd (c24.symm.trans h.1) (by decide))
                refine g_bipush (pc' := 188) (v := 26) dX10_behindSum_186 rfl (by decide) ?_
                refine g_istore_n (pc' := 189) (i := 2) (L' := [(2, vi 26), (3, vi z3), (0, vr X 97), (1, vi a)]) dX10_behindSum_188 rfl rfl (by decide) rfl ?_
                refine g_sub [0, 2] rfl ?_
                exact j_X10_behindSum_z_189 X M hi a ha F0 hs0 hh0 hq0 htk hbad K W S E m i lv ops vs hz hf hrq tb hta 26 (by omega) (by omega) (by omega) ((q16.1 ops hf.2.2.2).resolve_left (fun z => by omega)).2 (SU4.mk_ (by unfold NOP; omega) (by omega) (fun y => by
                    rcases hta with w | w
                    · rw [w.2] at y; exact absurd y.2 (by decide)
                    · omega) ((q16.1 ops hf.2.2.2).resolve_left (fun z => by omega)).2) (SQ.inn hq0 q2.1 (by omega) (by omega))
              · replace q22 := q22.resolve_right (fun h => c24 h.1)
                refine g_bipush (pc' := 183) (v := 25) dX10_behindSum_181 rfl (by decide) ?_
                refine g_goto (tgt := 188) dX10_behindSum_183 rfl ?_
                refine g_istore_n (pc' := 189) (i := 2) (L' := [(2, vi 25), (3, vi z3), (0, vr X 97), (1, vi a)]) dX10_behindSum_188 rfl rfl (by decide) rfl ?_
                refine g_sub [0, 2] rfl ?_
                exact j_X10_behindSum_z_189 X M hi a ha F0 hs0 hh0 hq0 htk hbad K W S E m i lv ops vs hz hf hrq tb hta 25 (by omega) (by omega) (by omega) ((q16.1 ops hf.2.2.2).resolve_left (fun z => by omega)).2 (SU4.mk_ (by unfold NOP; omega) (by omega) (fun y => by
                    rcases hta with w | w
                    · rw [w.2] at y; exact absurd y.2 (by decide)
                    · omega) ((q16.1 ops hf.2.2.2).resolve_left (fun z => by omega)).2) (SQ.inn hq0 q2.1 (by omega) (by omega))
            · replace q19 := q19.resolve_right (fun h => c21 h.1)
              refine g_bipush (pc' := 169) (v := 24) dX10_behindSum_167 rfl (by decide) ?_
              refine g_goto (tgt := 188) dX10_behindSum_169 rfl ?_
              refine g_istore_n (pc' := 189) (i := 2) (L' := [(2, vi 24), (3, vi z3), (0, vr X 97), (1, vi a)]) dX10_behindSum_188 rfl rfl (by decide) rfl ?_
              refine g_sub [0, 2] rfl ?_
              exact j_X10_behindSum_z_189 X M hi a ha F0 hs0 hh0 hq0 htk hbad K W S E m i lv ops vs hz hf hrq tb hta 24 (by omega) (by omega) (by omega) ((q16.1 ops hf.2.2.2).resolve_left (fun z => by omega)).2 (SU4.mk_ (by unfold NOP; omega) (by omega) (fun y => by
                  rcases hta with w | w
                  · rw [w.2] at y; exact absurd y.2 (by decide)
                  · omega) ((q16.1 ops hf.2.2.2).resolve_left (fun z => by omega)).2) (SQ.inn hq0 q2.1 (by omega) (by omega))
          · refine g_iconst (pc' := 157) dX10_behindSum_156 rfl ?_
            refine g_ireturn dX10_behindSum_157 ?_
            exact ⟨hi, Fr.rf, rfl, rfl, rfl, rfl, rfl, RFs.ok hbad (stSu_cm (by unfold NOP; omega) (by omega) (fun y => by
                rcases hta with w | w
                · rw [w.2] at y; exact absurd y.2 (by decide)
                · omega) ((q16.1 ops hf.2.2.2).resolve_right (fun z => by omega)).2) hf, (RLt.s (stSu_cm (by unfold NOP; omega) (by omega) (fun y => by
                rcases hta with w | w
                · rw [w.2] at y; exact absurd y.2 (by decide)
                · omega) ((q16.1 ops hf.2.2.2).resolve_right (fun z => by omega)).2) (by decide) hrq (fun _ => T2s.cm ((q16.1 ops hf.2.2.2).resolve_right (fun z => by omega)).2)), ⟨by omega, by omega⟩, (PS.mk_ hs0 hh0 (SQ.inn hq0 q2.1 (by omega) (by omega)) (by omega)), (LO.rf _ _), htk, by omega, (mz_lt hbad (by omega) (by omega) (by omega))⟩
        · refine g_iconst (pc' := 148) dX10_behindSum_147 rfl ?_
          refine g_ireturn dX10_behindSum_148 ?_
          exact ⟨hi, Fr.rf, rfl, rfl, rfl, rfl, rfl, RFs.ok hbad (stSu_ov (by unfold NOP; omega) (by omega) (by
              rcases hta with y | y
              · exact absurd (by omega) y.1
              · exact y.2)) hf, (RLt.s (stSu_ov (by unfold NOP; omega) (by omega) (by
              rcases hta with y | y
              · exact absurd (by omega) y.1
              · exact y.2)) (by decide) hrq (fun z => absurd z (by decide))), ⟨by omega, by omega⟩, (PS.mk_ hs0 hh0 (SQ.inn hq0 q2.1 (by omega) (by omega)) (by omega)), (LO.rf _ _), htk, by omega, (mz_lt hbad (by omega) (by omega) (by omega))⟩
    · refine g_aload_n (pc' := 95) 2 dX10_behindSum_94 rfl rfl ?_
      refine g_aload_n (pc' := 96) 2 dX10_behindSum_95 rfl rfl ?_
      refine g_bipush (pc' := 98) (v := 93) dX10_behindSum_96 rfl (by decide) ?_
      refine g_callVip (pc' := 101) (As := [vi 93]) (b := 97) (S := [vr X 97]) dX10_behindSum_98 rfl m_X10_221 w_X10_isSign (c_X10_isSign_x X M hi 93 (by decide)) rfl ⟨_, _, _, rfl, rfl, rfl⟩ (by decide) (by decide) rfl (Nat.le_of_ble_eq_true rfl) (fun z26 q25 => ?_)
      refine g_callVv (pc' := 104) (As := [vi z26]) (b := 97) (S := []) dX10_behindSum_101 rfl m_X10_187 w_X10_must (c_X10_must_x X M hi z26 ⟨by omega, by omega⟩ htk) rfl ⟨_, _, _, rfl, rfl, rfl⟩ (by decide) (by decide) rfl (Nat.le_of_ble_eq_true rfl) (fun M28 q27 => ?_)
      obtain ⟨iM28, fM280, eM28_97_12, eM28_97_19, eM28_97_21, eM28_97_24, eM28_97_27, eM28_97_28, eM28_97_10, eM28_97_44, eM28_97_33, pM28⟩ := q27
      have fM28 : Fr (fun c => c = 97 ∨ (108 ≤ c ∧ c ≤ 111)) M M28 := Fr.tr Fr.rf fM280 fi_45
      have q97_12_M28 : (M28 97 12 = M 97 12) := eM28_97_12
      have q97_19_M28 : (M28 97 19 = M 97 19) := eM28_97_19
      have q97_10_M28 : (M28 97 10 = M 97 10) := eM28_97_10
      have q97_44_M28 : (M28 97 44 = M 97 44) := eM28_97_44
      have q97_33_M28 : (M28 97 33 = M 97 33) := eM28_97_33
      have wM28_97_12 : M28 97 12 = M 97 12 := eM28_97_12
      have wM28_97_21 : M28 97 21 = M 97 21 := eM28_97_21
      have wM28_97_24 : M28 97 24 = M 97 24 := eM28_97_24
      have wM28_97_27 : M28 97 27 = M 97 27 := eM28_97_27
      have wM28_97_28 : M28 97 28 = M 97 28 := eM28_97_28
      have tzM28 : TZM M28 K W S E m := TZM.eq hz (fM280 106 (by decide)) eM28_97_12
      obtain ⟨xxM28, pM28⟩ := pM28
      have muM28 := xxM28.at_ hz hf.1 hbad (fun z => by omega)
      have CM28_108 : M28 108 = M 108 := fM280 108 (by decide)
      have CM28_109 : M28 109 = M 109 := fM280 109 (by decide)
      have CM28_110 : M28 110 = M 110 := fM280 110 (by decide)
      have CM28_111 : M28 111 = M 111 := fM280 111 (by decide)
      obtain ⟨aM28p, bM28p, cM28p, kM28p⟩ := pM28
      have tkM28 : TK M28 := kM28p
      clear kM28p
      have tbM28 := tkM28.b
      have siM28 : SI M28 F0 := SI.nx hs0 CM28_110 CM28_111 (by omega) (by omega) (by omega) (by omega)
      have hiM28 := HI.nx hh0 CM28_108 CM28_109 CM28_110 CM28_111 (by omega) (by omega)
      have sqM28 : SQ M28 3 := SQ.nx hq0 CM28_110 (by omega) (by omega)
      have loM28 : LO M M28 F0 := LO.tr (LO.rf _ _) (LO.eq CM28_108 CM28_109)
      refine g_aload_n (pc' := 105) 2 dX10_behindSum_104 rfl rfl ?_
      refine g_getI (pc' := 108) dX10_behindSum_105 rfl f_X10_154 rfl rfl (fun v29 ev29 rv29 => ?_)
      refine g_if_ne (pc' := 111) (tgt := 136) rv29 dX10_behindSum_108 rfl rfl (fun c30 => ?_) (fun c30 => ?_)
      · refine g_iconst (pc' := 137) dX10_behindSum_136 rfl ?_
        refine g_ireturn dX10_behindSum_137 ?_
        exact ⟨iM28, fM28, q97_12_M28, q97_19_M28, q97_10_M28, q97_44_M28, q97_33_M28, RFs.no (j := i) (by omega) (by rw [stSu_sq (by unfold NOP; omega) (by omega), if_neg (by omega)]) (by omega), (RLt.bad (by omega)), ⟨by omega, by omega⟩, (PS.bad siM28 (by omega)), loM28, tkM28, by omega, (mz_lt hbad (by omega) (by omega) (by omega))⟩
      · refine g_aload_n (pc' := 112) 2 dX10_behindSum_111 rfl rfl ?_
        refine g_iconst (pc' := 113) dX10_behindSum_112 rfl ?_
        refine g_callVv (pc' := 116) (As := [vi 5]) (b := 97) (S := []) dX10_behindSum_113 rfl m_X10_254 w_X10_settle (c_X10_settle_z X M28 iM28 5 (by decide) F0 siM28 (by omega)) rfl ⟨_, _, _, rfl, rfl, rfl⟩ (by decide) (by decide) rfl (Nat.le_of_ble_eq_true rfl) (fun M32 q31 => ?_)
        obtain ⟨iM32, fM320, eM32_97_10, eM32_97_44, eM32_97_33, eM32_97_12, eM32_97_19, eM32_97_24, eM32_97_28, eM32_97_13, eM32_97_14, eM32_97_15, eM32_97_16, eM32_97_18, eM32_97_17, pM32⟩ := q31
        have fM32 : Fr (fun c => c = 97 ∨ (108 ≤ c ∧ c ≤ 111)) M M32 := Fr.tr fM28 fM320 fi_46
        have q97_12_M32 : (M32 97 12 = M 97 12) := eM32_97_12.trans q97_12_M28
        have q97_19_M32 : (M32 97 19 = M 97 19) := eM32_97_19.trans q97_19_M28
        have q97_10_M32 : (M32 97 10 = M 97 10) := eM32_97_10.trans q97_10_M28
        have q97_44_M32 : (M32 97 44 = M 97 44) := eM32_97_44.trans q97_44_M28
        have q97_33_M32 : (M32 97 33 = M 97 33) := eM32_97_33.trans q97_33_M28
        have wM32_97_12 : M32 97 12 = M28 97 12 := eM32_97_12
        have wM32_97_13 : M32 97 13 = M28 97 13 := eM32_97_13
        have wM32_97_14 : M32 97 14 = M28 97 14 := eM32_97_14
        have wM32_97_15 : M32 97 15 = M28 97 15 := eM32_97_15
        have wM32_97_16 : M32 97 16 = M28 97 16 := eM32_97_16
        have wM32_97_17 : M32 97 17 = M28 97 17 := eM32_97_17
        have wM32_97_18 : M32 97 18 = M28 97 18 := eM32_97_18
        have wM32_97_24 : M32 97 24 = M28 97 24 := eM32_97_24
        have wM32_97_28 : M32 97 28 = M28 97 28 := eM32_97_28
        have tzM32 : TZM M32 K W S E m := TZM.eq tzM28 (fM320 106 (by decide)) eM32_97_12
        have CM32_110 : M32 110 = M 110 := (fM320 110 (by decide)).trans CM28_110
        have CM32_111 : M32 111 = M 111 := (fM320 111 (by decide)).trans CM28_111
        have tkM32 : TK M32 := TK.eq tkM28 eM32_97_12 eM32_97_13 eM32_97_14 eM32_97_15 eM32_97_16
        obtain ⟨siM32, htM32, loM320, stM32, sxM32, rfM32⟩ := pM32
        have spM32 := stM32.1
        have saM32 := siM32.ar
        have loM32 : LO M M32 F0 := LO.tr loM28 loM320
        have hiM32 : HI M32 F0 1 := htM32 hiM28
        have sqM32 : SQ M32 3 := SQ.nx sqM28 (fM320 110 (by decide)) (by omega) (by omega)
        refine g_aload_n (pc' := 117) 2 dX10_behindSum_116 rfl rfl ?_
        refine g_dup (pc' := 118) dX10_behindSum_117 rfl rfl ?_
        refine g_getI (pc' := 121) dX10_behindSum_118 rfl f_X10_194 rfl rfl (fun v33 ev33 rv33 => ?_)
        refine g_iconst (pc' := 122) dX10_behindSum_121 rfl ?_
        refine g_isub (pc' := 123) dX10_behindSum_122 rfl ?_
        refine g_putI (pc' := 126) dX10_behindSum_123 rfl p_X10_194 rfl rfl ⟨by omega, by omega⟩ (fun M34 hM34 => ?_)
        have iM34 : IM M34 := IM.wr iM32 hM34 (by unfold okv; first | decide | omega)
        have fM34 : Fr (fun c => c = 97 ∨ (108 ≤ c ∧ c ≤ 111)) M M34 := Fr.wr fM32 hM34 (by first | decide | omega | (dsimp only; omega))
        have q97_12_M34 : (M34 97 12 = M 97 12) := (show M34 97 12 = M32 97 12 by rw [hM34]; exact mu_ne _ _ (by first | decide | omega)).trans q97_12_M32
        have q97_19_M34 : (M34 97 19 = M 97 19) := (show M34 97 19 = M32 97 19 by rw [hM34]; exact mu_ne _ _ (by first | decide | omega)).trans q97_19_M32
        have q97_10_M34 : (M34 97 10 = M 97 10) := (show M34 97 10 = M32 97 10 by rw [hM34]; exact mu_ne _ _ (by first | decide | omega)).trans q97_10_M32
        have q97_44_M34 : (M34 97 44 = M 97 44) := (show M34 97 44 = M32 97 44 by rw [hM34]; exact mu_ne _ _ (by first | decide | omega)).trans q97_44_M32
        have q97_33_M34 : (M34 97 33 = M 97 33) := (show M34 97 33 = M32 97 33 by rw [hM34]; exact mu_ne _ _ (by first | decide | omega)).trans q97_33_M32
        have wM34_97_12 : M34 97 12 = M32 97 12 := by rw [hM34]; exact mu_ne _ _ (by first | decide | omega)
        have wM34_97_13 : M34 97 13 = M32 97 13 := by rw [hM34]; exact mu_ne _ _ (by first | decide | omega)
        have wM34_97_14 : M34 97 14 = M32 97 14 := by rw [hM34]; exact mu_ne _ _ (by first | decide | omega)
        have wM34_97_15 : M34 97 15 = M32 97 15 := by rw [hM34]; exact mu_ne _ _ (by first | decide | omega)
        have wM34_97_16 : M34 97 16 = M32 97 16 := by rw [hM34]; exact mu_ne _ _ (by first | decide | omega)
        have wM34_97_17 : M34 97 17 = M32 97 17 := by rw [hM34]; exact mu_ne _ _ (by first | decide | omega)
        have wM34_97_18 : M34 97 18 = M32 97 18 := by rw [hM34]; exact mu_ne _ _ (by first | decide | omega)
        have wM34_97_21 : M34 97 21 = M32 97 21 := by rw [hM34]; exact mu_ne _ _ (by first | decide | omega)
        have wM34_97_24 : M34 97 24 = M32 97 24 := by rw [hM34]; exact mu_ne _ _ (by first | decide | omega)
        have wM34_97_28 : M34 97 28 = M32 97 28 := by rw [hM34]; exact mu_ne _ _ (by first | decide | omega)
        have xM34_97_27 : M34 97 27 = v33 - 1 := by rw [hM34]; exact mu_at _ _ _ _
        have CM34_108 : M34 108 = M32 108 := by rw [hM34, mu_cell _ _ (by decide)]
        have CM34_109 : M34 109 = M32 109 := by rw [hM34, mu_cell _ _ (by decide)]
        have CM34_110 : M34 110 = M32 110 := by rw [hM34, mu_cell _ _ (by decide)]
        have CM34_111 : M34 111 = M32 111 := by rw [hM34, mu_cell _ _ (by decide)]
        have tkM34 : TK M34 := TK.eq tkM32 (show M34 97 12 = M32 97 12 by rw [hM34]; exact mu_ne _ _ (by first | decide | omega)) (show M34 97 13 = M32 97 13 by rw [hM34]; exact mu_ne _ _ (by first | decide | omega)) (show M34 97 14 = M32 97 14 by rw [hM34]; exact mu_ne _ _ (by first | decide | omega)) (show M34 97 15 = M32 97 15 by rw [hM34]; exact mu_ne _ _ (by first | decide | omega)) (show M34 97 16 = M32 97 16 by rw [hM34]; exact mu_ne _ _ (by first | decide | omega))
        have tzM34 : TZM M34 K W S E m := TZM.eq tzM32 (by rw [hM34]; exact mu_cell _ _ (by decide)) (show M34 97 12 = M32 97 12 by rw [hM34]; exact mu_ne _ _ (by first | decide | omega))
        refine g_aload_n (pc' := 127) 2 dX10_behindSum_126 rfl rfl ?_
        refine g_dup (pc' := 128) dX10_behindSum_127 rfl rfl ?_
        refine g_getI (pc' := 131) dX10_behindSum_128 rfl f_X10_212 rfl rfl (fun v35 ev35 rv35 => ?_)
        refine g_iconst (pc' := 132) dX10_behindSum_131 rfl ?_
        refine g_isub (pc' := 133) dX10_behindSum_132 rfl ?_
        refine g_putI (pc' := 136) dX10_behindSum_133 rfl p_X10_212 rfl rfl ⟨by omega, by omega⟩ (fun M36 hM36 => ?_)
        have iM36 : IM M36 := IM.wr iM34 hM36 (by unfold okv; first | decide | omega)
        have fM36 : Fr (fun c => c = 97 ∨ (108 ≤ c ∧ c ≤ 111)) M M36 := Fr.wr fM34 hM36 (by first | decide | omega | (dsimp only; omega))
        have q97_12_M36 : (M36 97 12 = M 97 12) := (show M36 97 12 = M34 97 12 by rw [hM36]; exact mu_ne _ _ (by first | decide | omega)).trans q97_12_M34
        have q97_19_M36 : (M36 97 19 = M 97 19) := (show M36 97 19 = M34 97 19 by rw [hM36]; exact mu_ne _ _ (by first | decide | omega)).trans q97_19_M34
        have q97_10_M36 : (M36 97 10 = M 97 10) := (show M36 97 10 = M34 97 10 by rw [hM36]; exact mu_ne _ _ (by first | decide | omega)).trans q97_10_M34
        have q97_44_M36 : (M36 97 44 = M 97 44) := (show M36 97 44 = M34 97 44 by rw [hM36]; exact mu_ne _ _ (by first | decide | omega)).trans q97_44_M34
        have q97_33_M36 : (M36 97 33 = M 97 33) := (show M36 97 33 = M34 97 33 by rw [hM36]; exact mu_ne _ _ (by first | decide | omega)).trans q97_33_M34
        have wM36_97_12 : M36 97 12 = M34 97 12 := by rw [hM36]; exact mu_ne _ _ (by first | decide | omega)
        have wM36_97_13 : M36 97 13 = M34 97 13 := by rw [hM36]; exact mu_ne _ _ (by first | decide | omega)
        have wM36_97_14 : M36 97 14 = M34 97 14 := by rw [hM36]; exact mu_ne _ _ (by first | decide | omega)
        have wM36_97_15 : M36 97 15 = M34 97 15 := by rw [hM36]; exact mu_ne _ _ (by first | decide | omega)
        have wM36_97_16 : M36 97 16 = M34 97 16 := by rw [hM36]; exact mu_ne _ _ (by first | decide | omega)
        have wM36_97_17 : M36 97 17 = M34 97 17 := by rw [hM36]; exact mu_ne _ _ (by first | decide | omega)
        have wM36_97_18 : M36 97 18 = M34 97 18 := by rw [hM36]; exact mu_ne _ _ (by first | decide | omega)
        have wM36_97_21 : M36 97 21 = M34 97 21 := by rw [hM36]; exact mu_ne _ _ (by first | decide | omega)
        have wM36_97_24 : M36 97 24 = M34 97 24 := by rw [hM36]; exact mu_ne _ _ (by first | decide | omega)
        have wM36_97_27 : M36 97 27 = M34 97 27 := by rw [hM36]; exact mu_ne _ _ (by first | decide | omega)
        have xM36_97_27 : M36 97 27 = v33 - 1 := (show M36 97 27 = M34 97 27 by rw [hM36]; exact mu_ne _ _ (by first | decide | omega)).trans xM34_97_27
        have xM36_97_28 : M36 97 28 = v35 - 1 := by rw [hM36]; exact mu_at _ _ _ _
        have CM36_108 : M36 108 = M32 108 := by rw [hM36, mu_cell _ _ (by decide), CM34_108]
        have CM36_109 : M36 109 = M32 109 := by rw [hM36, mu_cell _ _ (by decide), CM34_109]
        have CM36_110 : M36 110 = M32 110 := by rw [hM36, mu_cell _ _ (by decide), CM34_110]
        have CM36_111 : M36 111 = M32 111 := by rw [hM36, mu_cell _ _ (by decide), CM34_111]
        have tkM36 : TK M36 := TK.eq tkM34 (show M36 97 12 = M34 97 12 by rw [hM36]; exact mu_ne _ _ (by first | decide | omega)) (show M36 97 13 = M34 97 13 by rw [hM36]; exact mu_ne _ _ (by first | decide | omega)) (show M36 97 14 = M34 97 14 by rw [hM36]; exact mu_ne _ _ (by first | decide | omega)) (show M36 97 15 = M34 97 15 by rw [hM36]; exact mu_ne _ _ (by first | decide | omega)) (show M36 97 16 = M34 97 16 by rw [hM36]; exact mu_ne _ _ (by first | decide | omega))
        have tzM36 : TZM M36 K W S E m := TZM.eq tzM34 (by rw [hM36]; exact mu_cell _ _ (by decide)) (show M36 97 12 = M34 97 12 by rw [hM36]; exact mu_ne _ _ (by first | decide | omega))
        have inM36 := INN.nx q2.1 (show _ = 31 by omega) CM28_110 (show M28 97 27 = M 97 27 by omega)
        have drM36 := STP.sq stM32 sqM28 inM36
        have dbM36 : 30 ≤ M32 110 (M32 97 27 - 1).toNat := by rw [fM320 110 (by decide)]; omega
        have siM36 : SI M36 F0 := SI.drop siM32 (by omega) (by omega) CM36_110 CM36_111 (by omega) (by omega)
        have hiM36 : HI M36 F0 1 := HI.drop hiM32 (by omega) dbM36 CM36_108 CM36_109 CM36_110 CM36_111 (by omega) (by omega)
        have sqM36 : SQ M36 3 := SQ.nx sqM32 CM36_110 (by omega) (by omega)
        have loM36 : LO M M36 F0 := LO.tr loM32 (LO.eq CM36_108 CM36_109)
        refine g_iconst (pc' := 137) dX10_behindSum_136 rfl ?_
        refine g_ireturn dX10_behindSum_137 ?_
        exact ⟨iM36, fM36, q97_12_M36, q97_19_M36, q97_10_M36, q97_44_M36, q97_33_M36, RFs.ok (i := i + 1) (lv := lv) (ops := (stl 5 ops vs).1.tail) (vs := (stl 5 ops vs).2) (by omega) (by rw [stSu_sq (by unfold NOP; omega) (by omega), if_pos (by omega)]; rfl) (RFo.cls (vs := vs) (show PIL (M28 110) (M28 97 27).toNat ops by rw [CM28_110, show M28 97 27 = M 97 27 by omega]; exact hf.2.2.2) (show M28 97 28 = opn ops by omega) stM32 (fM320 110 (by decide)) (by omega) (by omega) CM36_110 (by omega) (by omega) (by omega) (AT.eq (muM28.resolve_right (fun z => z.1 (by omega))).2.2 (by omega) (by omega) (by omega) (by omega) (by omega))), (RLt.s (t := 3) (i := i + 1) (lv := lv) (ops := (stl 5 ops vs).1.tail) (vs := (stl 5 ops vs).2) (by rw [stSu_sq (by unfold NOP; omega) (by omega), if_pos (by omega)]; rfl) (by decide) (RLM.cls (rfM32 _ _ (show RLM M28 F0 ops vs from ⟨by rw [CM28_110, show M28 97 27 = M 97 27 by omega]; exact hf.2.2.2, hrq.eq CM28_108 CM28_109 CM28_111 (by omega)⟩)).1 (by omega) CM36_108 CM36_109 CM36_111 (by omega) (Or.inr (by rw [fM320 110 (by decide)]; exact drM36.2))).1 (fun z => absurd z (by decide))), ⟨by omega, by omega⟩, (PS.mk_ siM36 hiM36 sqM36 (by omega)), loM36, tkM36, by omega, (mz_lt hbad (by omega) (by omega) (by omega))⟩
  · refine g_aload_n (pc' := 64) 1 dX10_behindSum_63 rfl rfl ?_
    refine g_iload_n (pc' := 65) 0 dX10_behindSum_64 rfl rfl ?_
    refine g_callSip (pc' := 68) (As := [vi op]) (S := [vr X 97]) dX10_behindSum_65 rfl m_X10_197 w_X10_binds (c_X10_binds X M op ⟨by omega, by omega⟩) rfl (by decide) (by decide) rfl (Nat.le_of_ble_eq_true rfl) (fun z38 q37 => ?_)
    have ho_ : 20 ≤ op ∧ op ≤ 23 := And.imp id And.left (hop.resolve_left (fun y => by first | contradiction | omega))
    have hop3 := hop2.resolve_right (fun y => by have y1 := y.1; omega)
    have bh0 := bnd_hi (x := op) (by omega)
    refine g_callVv (pc' := 71) (As := [vi z38]) (b := 97) (S := []) dX10_behindSum_68 rfl m_X10_254 w_X10_settle (c_X10_settle_z X M hi z38 ⟨by omega, by omega⟩ F0 hs0 (by omega)) rfl ⟨_, _, _, rfl, rfl, rfl⟩ (by decide) (by decide) rfl (Nat.le_of_ble_eq_true rfl) (fun M40 q39 => ?_)
    obtain ⟨iM40, fM400, eM40_97_10, eM40_97_44, eM40_97_33, eM40_97_12, eM40_97_19, eM40_97_24, eM40_97_28, eM40_97_13, eM40_97_14, eM40_97_15, eM40_97_16, eM40_97_18, eM40_97_17, pM40⟩ := q39
    have fM40 : Fr (fun c => c = 97 ∨ (108 ≤ c ∧ c ≤ 111)) M M40 := Fr.tr Fr.rf fM400 fi_46
    have q97_12_M40 : (M40 97 12 = M 97 12) := eM40_97_12
    have q97_19_M40 : (M40 97 19 = M 97 19) := eM40_97_19
    have q97_10_M40 : (M40 97 10 = M 97 10) := eM40_97_10
    have q97_44_M40 : (M40 97 44 = M 97 44) := eM40_97_44
    have q97_33_M40 : (M40 97 33 = M 97 33) := eM40_97_33
    have wM40_97_12 : M40 97 12 = M 97 12 := eM40_97_12
    have wM40_97_13 : M40 97 13 = M 97 13 := eM40_97_13
    have wM40_97_14 : M40 97 14 = M 97 14 := eM40_97_14
    have wM40_97_15 : M40 97 15 = M 97 15 := eM40_97_15
    have wM40_97_16 : M40 97 16 = M 97 16 := eM40_97_16
    have wM40_97_17 : M40 97 17 = M 97 17 := eM40_97_17
    have wM40_97_18 : M40 97 18 = M 97 18 := eM40_97_18
    have wM40_97_24 : M40 97 24 = M 97 24 := eM40_97_24
    have wM40_97_28 : M40 97 28 = M 97 28 := eM40_97_28
    have tzM40 : TZM M40 K W S E m := TZM.eq hz (fM400 106 (by decide)) eM40_97_12
    have CM40_110 : M40 110 = M 110 := fM400 110 (by decide)
    have CM40_111 : M40 111 = M 111 := fM400 111 (by decide)
    have tkM40 : TK M40 := TK.eq htk eM40_97_12 eM40_97_13 eM40_97_14 eM40_97_15 eM40_97_16
    obtain ⟨siM40, htM40, loM400, stM40, sxM40, rfM40⟩ := pM40
    have spM40 := stM40.1
    have saM40 := siM40.ar
    have loM40 : LO M M40 F0 := LO.tr (LO.rf _ _) loM400
    have hiM40 : HI M40 F0 1 := htM40 hh0
    have sqM40 : SQ M40 3 := SQ.nx hq0 (fM400 110 (by decide)) (by omega) (by omega)
    refine g_aload_n (pc' := 72) 1 dX10_behindSum_71 rfl rfl ?_
    refine g_iload_n (pc' := 73) 0 dX10_behindSum_72 rfl rfl ?_
    refine g_iconst (pc' := 74) dX10_behindSum_73 rfl ?_
    refine g_callVv (pc' := 77) (As := [vi op, vi 0]) (b := 97) (S := []) dX10_behindSum_74 rfl m_X10_215 w_X10_push (c_X10_push_x X M40 iM40 op ⟨by omega, by omega⟩ 0 (by decide) (by omega)) rfl ⟨_, _, _, rfl, rfl, rfl⟩ (by decide) (by decide) rfl (Nat.le_of_ble_eq_true rfl) (fun M42 q41 => ?_)
    obtain ⟨iM42, fM420, eM42_97_12, eM42_97_19, eM42_97_21, eM42_97_24, eM42_97_28, eM42_97_10, eM42_97_44, eM42_97_33, eM42_97_13, eM42_97_14, eM42_97_15, eM42_97_16, eM42_97_18, eM42_97_17, pM42⟩ := q41
    have fM42 : Fr (fun c => c = 97 ∨ (108 ≤ c ∧ c ≤ 111)) M M42 := Fr.tr fM40 fM420 fi_47
    have q97_12_M42 : (M42 97 12 = M 97 12) := eM42_97_12.trans q97_12_M40
    have q97_19_M42 : (M42 97 19 = M 97 19) := eM42_97_19.trans q97_19_M40
    have q97_10_M42 : (M42 97 10 = M 97 10) := eM42_97_10.trans q97_10_M40
    have q97_44_M42 : (M42 97 44 = M 97 44) := eM42_97_44.trans q97_44_M40
    have q97_33_M42 : (M42 97 33 = M 97 33) := eM42_97_33.trans q97_33_M40
    have wM42_97_12 : M42 97 12 = M40 97 12 := eM42_97_12
    have wM42_97_13 : M42 97 13 = M40 97 13 := eM42_97_13
    have wM42_97_14 : M42 97 14 = M40 97 14 := eM42_97_14
    have wM42_97_15 : M42 97 15 = M40 97 15 := eM42_97_15
    have wM42_97_16 : M42 97 16 = M40 97 16 := eM42_97_16
    have wM42_97_17 : M42 97 17 = M40 97 17 := eM42_97_17
    have wM42_97_18 : M42 97 18 = M40 97 18 := eM42_97_18
    have wM42_97_21 : M42 97 21 = M40 97 21 := eM42_97_21
    have wM42_97_24 : M42 97 24 = M40 97 24 := eM42_97_24
    have wM42_97_28 : M42 97 28 = M40 97 28 := eM42_97_28
    have tzM42 : TZM M42 K W S E m := TZM.eq tzM40 (fM420 106 (by decide)) eM42_97_12
    have CM42_108 : M42 108 = M40 108 := fM420 108 (by decide)
    have CM42_109 : M42 109 = M40 109 := fM420 109 (by decide)
    have CM42_110 : M42 110 = ms (M40 110) (M40 97 27).toNat op := by rw [pM42.1, show M40 97 27 = M40 97 27 by omega]
    have CM42_111 : M42 111 = ms (M40 111) (M40 97 27).toNat 0 := by rw [pM42.2.1, show M40 97 27 = M40 97 27 by omega]
    have tkM42 : TK M42 := TK.eq tkM40 eM42_97_12 eM42_97_13 eM42_97_14 eM42_97_15 eM42_97_16
    have ppM42 := pM42.2.2
    clear pM42
    refine g_aload_n (pc' := 78) 1 dX10_behindSum_77 rfl rfl ?_
    refine g_callVv (pc' := 81) (As := []) (b := 97) (S := []) dX10_behindSum_78 rfl m_X10_158 w_X10_next (c_X10_next_x X M42 iM42 (by omega)) rfl ⟨_, _, _, rfl, rfl, rfl⟩ (by decide) (by decide) rfl (Nat.le_of_ble_eq_true rfl) (fun M44 q43 => ?_)
    obtain ⟨iM44, fM440, eM44_97_12, eM44_97_19, eM44_97_21, eM44_97_24, eM44_97_27, eM44_97_28, eM44_97_10, eM44_97_44, eM44_97_33, eM44_97_18, eM44_97_17, pM44⟩ := q43
    have fM44 : Fr (fun c => c = 97 ∨ (108 ≤ c ∧ c ≤ 111)) M M44 := Fr.tr fM42 fM440 fi_45
    have q97_12_M44 : (M44 97 12 = M 97 12) := eM44_97_12.trans q97_12_M42
    have q97_19_M44 : (M44 97 19 = M 97 19) := eM44_97_19.trans q97_19_M42
    have q97_10_M44 : (M44 97 10 = M 97 10) := eM44_97_10.trans q97_10_M42
    have q97_44_M44 : (M44 97 44 = M 97 44) := eM44_97_44.trans q97_44_M42
    have q97_33_M44 : (M44 97 33 = M 97 33) := eM44_97_33.trans q97_33_M42
    have wM44_97_12 : M44 97 12 = M42 97 12 := eM44_97_12
    have wM44_97_17 : M44 97 17 = M42 97 17 := eM44_97_17
    have wM44_97_18 : M44 97 18 = M42 97 18 := eM44_97_18
    have wM44_97_21 : M44 97 21 = M42 97 21 := eM44_97_21
    have wM44_97_24 : M44 97 24 = M42 97 24 := eM44_97_24
    have wM44_97_27 : M44 97 27 = M42 97 27 := eM44_97_27
    have wM44_97_28 : M44 97 28 = M42 97 28 := eM44_97_28
    have tzM44 : TZM M44 K W S E m := TZM.eq tzM42 (fM440 106 (by decide)) eM44_97_12
    obtain ⟨xxM44, pM44⟩ := pM44
    have atM44 : AT K W S E m M44 (i + 1) := AT.nx tzM42 (AT.eq hf.1 (by omega) (by omega) (by omega) (by omega) (by omega)) (by omega) xxM44 (by omega)
    have CM44_108 : M44 108 = M40 108 := (fM440 108 (by decide)).trans CM42_108
    have CM44_109 : M44 109 = M40 109 := (fM440 109 (by decide)).trans CM42_109
    have CM44_110 : M44 110 = ms (M40 110) (M40 97 27).toNat op := (fM440 110 (by decide)).trans CM42_110
    have CM44_111 : M44 111 = ms (M40 111) (M40 97 27).toNat 0 := (fM440 111 (by decide)).trans CM42_111
    obtain ⟨aM44p, kM44p⟩ := pM44
    have tkM44 : TK M44 := kM44p
    clear kM44p
    have tbM44 := tkM44.b
    refine g_iconst (pc' := 82) dX10_behindSum_81 rfl ?_
    refine g_ireturn dX10_behindSum_82 ?_
    exact ⟨iM44, fM44, q97_12_M44, q97_19_M44, q97_10_M44, q97_44_M44, q97_33_M44, RFs.ok (i := i + 1) (lv := lv) (ops := op :: (stl z38 ops vs).1) (vs := (stl z38 ops vs).2) (by omega) (stSu_op hop3 q37.1) (RFo.psh (vs := vs) hf.2.2.2 hf.2.2.1 stM40 (fM400 110 (by decide)) (by omega) (by omega) CM44_110 (by omega) (by omega) (by omega) atM44), (RLt.p (t := 1) (i := i + 1) (lv := lv) (ops := op :: (stl z38 ops vs).1) (vs := (stl z38 ops vs).2) (stSu_op hop3 q37.1) (Or.inr rfl) (RLM.op (rfM40 _ _ (show RLM M F0 ops vs from ⟨hf.2.2.2, hrq⟩)).1 (by omega) CM44_108 CM44_109 CM44_111 (by omega) (by omega) (fun z => absurd z (by omega))) (fun z => absurd z (by decide))), ⟨by omega, by omega⟩, (PS.mk_ (q := 0) (SI.push siM40 (by omega) (by omega) CM44_110 CM44_111 (by omega) (by omega) (by omega) (by omega)) (HI.push siM40 hiM40 (by omega) CM44_108 CM44_109 CM44_110 CM44_111 (by omega) (by omega)) (SQ.push sqM40 CM44_110 (by omega) (by omega) (by omega) (by omega)) (by omega)), (LO.tr loM40 (LO.eq CM44_108 CM44_109)), tkM44, by omega, (mz_lt hbad (by omega) (by omega) (by omega))⟩
set_option maxHeartbeats 4000000 in
set_option maxRecDepth 100000 in
theorem c_X10_behindSum_z (X : Cx) (M : Mm) (hi : IM M) (a : Int) (ha : inI a) (F0 : Int) (hs0 : SI M F0) (hh0 : HI M F0 1) (hq0 : SQ M 3) (htk : TK M) (hbad : M 97 18 = 0) (K W S E : Nat → Int) (m i : Nat) (lv : Int) (ops : List Int) (vs : List Mng) (hz : TZM M K W S E m) (hf : RFo K W S E m M i lv ops) (hrq : RLz M F0 ops vs) (tb : Bool) (hta : (a ≠ 0 ∧ tb = true) ∨ (a = 0 ∧ tb = false)) : Con X 3 yX10_behindSum cX10_behindSum 4 (some .int) [vr X 97, vi a] M (Qi (fun r M1 => IM M1 ∧ Fr (fun c => c = 97 ∨ (108 ≤ c ∧ c ≤ 111)) M M1 ∧ M1 97 12 = M 97 12 ∧ M1 97 19 = M 97 19 ∧ M1 97 10 = M 97 10 ∧ M1 97 44 = M 97 44 ∧ M1 97 33 = M 97 33 ∧ ((RFs K W S E m M1 r (stSu K W tb i lv ops vs)) ∧ (RLt M1 F0 (stSu K W tb i lv ops vs)) ∧ (0 ≤ r ∧ r ≤ 4) ∧ PS M1 F0 r ∧ LO M M1 F0 ∧ TK M1 ∧ M 97 13 ≤ M1 97 13 ∧ mz (M1 97 13) (M1 97 18) r < mz (M 97 13) (M 97 18) 3))) := by
  refine Con.ofG rfl (Nat.le_of_ble_eq_true rfl) ?_
  show G X 3 RX10 cX10_behindSum 4 (some .int) (Qi (fun r M1 => IM M1 ∧ Fr (fun c => c = 97 ∨ (108 ≤ c ∧ c ≤ 111)) M M1 ∧ M1 97 12 = M 97 12 ∧ M1 97 19 = M 97 19 ∧ M1 97 10 = M 97 10 ∧ M1 97 44 = M 97 44 ∧ M1 97 33 = M 97 33 ∧ ((RFs K W S E m M1 r (stSu K W tb i lv ops vs)) ∧ (RLt M1 F0 (stSu K W tb i lv ops vs)) ∧ (0 ≤ r ∧ r ≤ 4) ∧ PS M1 F0 r ∧ LO M M1 F0 ∧ TK M1 ∧ M 97 13 ≤ M1 97 13 ∧ mz (M1 97 13) (M1 97 18) r < mz (M 97 13) (M 97 18) 3))) 0 [(0, vr X 97), (1, vi a)] [] M
  have p12 := hi.2.2.2.1
  have sa0 := hs0.ar
  have tb0 := htk.b
  have lt0 := htk.lt
  have hf2 := hf.2.1
  have hf3 := hf.2.2.1
  have aw0 := hf.1.w hz
  have on0 := opn_nn ops
  refine g_aload_n (pc' := 1) 0 dX10_behindSum_0 rfl rfl ?_
  refine g_bipush (pc' := 3) (v := 43) dX10_behindSum_1 rfl (by decide) ?_
  refine g_callVip (pc' := 6) (As := [vi 43]) (b := 97) (S := []) dX10_behindSum_3 rfl m_X10_221 w_X10_isSign (c_X10_isSign_x X M hi 43 (by decide)) rfl ⟨_, _, _, rfl, rfl, rfl⟩ (by decide) (by decide) rfl (Nat.le_of_ble_eq_true rfl) (fun z2 q1 => ?_)
  refine g_if_eq (pc' := 9) (tgt := 14) ⟨by omega, by omega⟩ dX10_behindSum_6 rfl rfl (fun c3 => ?_) (fun c3 => ?_)
  · replace q1 := q1.resolve_left (fun h => absurd (c3.symm.trans h.1) (by decide))
    refine g_aload_n (pc' := 15) 0 dX10_behindSum_14 rfl rfl ?_
    refine g_bipush (pc' := 17) (v := 45) dX10_behindSum_15 rfl (by decide) ?_
    refine g_callVip (pc' := 20) (As := [vi 45]) (b := 97) (S := []) dX10_behindSum_17 rfl m_X10_221 w_X10_isSign (c_X10_isSign_x X M hi 45 (by decide)) rfl ⟨_, _, _, rfl, rfl, rfl⟩ (by decide) (by decide) rfl (Nat.le_of_ble_eq_true rfl) (fun z5 q4 => ?_)
    refine g_if_eq (pc' := 23) (tgt := 28) ⟨by omega, by omega⟩ dX10_behindSum_20 rfl rfl (fun c6 => ?_) (fun c6 => ?_)
    · replace q4 := q4.resolve_left (fun h => absurd (c6.symm.trans h.1) (by decide))
      refine g_aload_n (pc' := 29) 0 dX10_behindSum_28 rfl rfl ?_
      refine g_bipush (pc' := 31) (v := 42) dX10_behindSum_29 rfl (by decide) ?_
      refine g_callVip (pc' := 34) (As := [vi 42]) (b := 97) (S := []) dX10_behindSum_31 rfl m_X10_221 w_X10_isSign (c_X10_isSign_x X M hi 42 (by decide)) rfl ⟨_, _, _, rfl, rfl, rfl⟩ (by decide) (by decide) rfl (Nat.le_of_ble_eq_true rfl) (fun z8 q7 => ?_)
      refine g_if_eq (pc' := 37) (tgt := 42) ⟨by omega, by omega⟩ dX10_behindSum_34 rfl rfl (fun c9 => ?_) (fun c9 => ?_)
      · replace q7 := q7.resolve_left (fun h => absurd (c9.symm.trans h.1) (by decide))
        refine g_aload_n (pc' := 43) 0 dX10_behindSum_42 rfl rfl ?_
        refine g_bipush (pc' := 45) (v := 47) dX10_behindSum_43 rfl (by decide) ?_
        refine g_callVip (pc' := 48) (As := [vi 47]) (b := 97) (S := []) dX10_behindSum_45 rfl m_X10_221 w_X10_isSign (c_X10_isSign_x X M hi 47 (by decide)) rfl ⟨_, _, _, rfl, rfl, rfl⟩ (by decide) (by decide) rfl (Nat.le_of_ble_eq_true rfl) (fun z11 q10 => ?_)
        refine g_if_eq (pc' := 51) (tgt := 56) ⟨by omega, by omega⟩ dX10_behindSum_48 rfl rfl (fun c12 => ?_) (fun c12 => ?_)
        · replace q10 := q10.resolve_left (fun h => absurd (c12.symm.trans h.1) (by decide))
          refine g_iconst (pc' := 57) dX10_behindSum_56 rfl ?_
          refine g_istore_n (pc' := 58) (i := 2) (L' := [(2, vi (-1)), (0, vr X 97), (1, vi a)]) dX10_behindSum_57 rfl rfl (by decide) rfl ?_
          refine g_sub [0, 1, 2] rfl ?_
          exact j_X10_behindSum_z_58 X M hi a ha F0 hs0 hh0 hq0 htk hbad K W S E m i lv ops vs hz hf hrq tb hta (-1) (by omega) (by omega)
        · replace q10 := q10.resolve_right (fun h => c12 h.1)
          refine g_bipush (pc' := 53) (v := 23) dX10_behindSum_51 rfl (by decide) ?_
          refine g_goto (tgt := 57) dX10_behindSum_53 rfl ?_
          refine g_istore_n (pc' := 58) (i := 2) (L' := [(2, vi 23), (0, vr X 97), (1, vi a)]) dX10_behindSum_57 rfl rfl (by decide) rfl ?_
          refine g_sub [0, 1, 2] rfl ?_
          exact j_X10_behindSum_z_58 X M hi a ha F0 hs0 hh0 hq0 htk hbad K W S E m i lv ops vs hz hf hrq tb hta 23 (by omega) (by omega)
      · replace q7 := q7.resolve_right (fun h => c9 h.1)
        refine g_bipush (pc' := 39) (v := 22) dX10_behindSum_37 rfl (by decide) ?_
        refine g_goto (tgt := 57) dX10_behindSum_39 rfl ?_
        refine g_istore_n (pc' := 58) (i := 2) (L' := [(2, vi 22), (0, vr X 97), (1, vi a)]) dX10_behindSum_57 rfl rfl (by decide) rfl ?_
        refine g_sub [0, 1, 2] rfl ?_
        exact j_X10_behindSum_z_58 X M hi a ha F0 hs0 hh0 hq0 htk hbad K W S E m i lv ops vs hz hf hrq tb hta 22 (by omega) (by omega)
    · replace q4 := q4.resolve_right (fun h => c6 h.1)
      refine g_bipush (pc' := 25) (v := 21) dX10_behindSum_23 rfl (by decide) ?_
      refine g_goto (tgt := 57) dX10_behindSum_25 rfl ?_
      refine g_istore_n (pc' := 58) (i := 2) (L' := [(2, vi 21), (0, vr X 97), (1, vi a)]) dX10_behindSum_57 rfl rfl (by decide) rfl ?_
      refine g_sub [0, 1, 2] rfl ?_
      exact j_X10_behindSum_z_58 X M hi a ha F0 hs0 hh0 hq0 htk hbad K W S E m i lv ops vs hz hf hrq tb hta 21 (by omega) (by omega)
  · replace q1 := q1.resolve_right (fun h => c3 h.1)
    refine g_bipush (pc' := 11) (v := 20) dX10_behindSum_9 rfl (by decide) ?_
    refine g_goto (tgt := 57) dX10_behindSum_11 rfl ?_
    refine g_istore_n (pc' := 58) (i := 2) (L' := [(2, vi 20), (0, vr X 97), (1, vi a)]) dX10_behindSum_57 rfl rfl (by decide) rfl ?_
    refine g_sub [0, 1, 2] rfl ?_
    exact j_X10_behindSum_z_58 X M hi a ha F0 hs0 hh0 hq0 htk hbad K W S E m i lv ops vs hz hf hrq tb hta 20 (by omega) (by omega)
