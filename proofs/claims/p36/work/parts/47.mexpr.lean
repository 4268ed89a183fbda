set_option maxHeartbeats 4000000 in
set_option maxRecDepth 100000 in
theorem c_X10_openBracket (X : Cx) (M : Mm) (hi : IM M) (a : Int) (ha : inI a) (F0 : Int) (hs0 : SI M F0) (hh0 : HI M F0 0) (t : Int) (hq0 : SQ M t) (htk : TK M) (hat : (a = 30 ∧ t = 0) ∨ a = 31) (hso : M 97 15 ≠ 0) : Con X 3 yX10_openBracket cX10_openBracket 2 none [vr X 97, vi a] M (Qv (fun M1 => IM M1 ∧ Fr (fun c => c = 97 ∨ c = 110 ∨ c = 111) M M1 ∧ M1 97 12 = M 97 12 ∧ M1 97 19 = M 97 19 ∧ (PS M1 F0 (a - 30) ∧ LO M M1 F0 ∧ TK M1 ∧ M 97 13 ≤ M1 97 13 ∧ (M1 97 18 = 0 → M 97 13 < M1 97 13)))) := by
  refine Con.ofG rfl (Nat.le_of_ble_eq_true rfl) ?_
  show G X 3 RX10 cX10_openBracket 2 none (Qv (fun M1 => IM M1 ∧ Fr (fun c => c = 97 ∨ c = 110 ∨ c = 111) M M1 ∧ M1 97 12 = M 97 12 ∧ M1 97 19 = M 97 19 ∧ (PS M1 F0 (a - 30) ∧ LO M M1 F0 ∧ TK M1 ∧ M 97 13 ≤ M1 97 13 ∧ (M1 97 18 = 0 → M 97 13 < M1 97 13)))) 0 [(0, vr X 97), (1, vi a)] [] M
  have p12 := hi.2.2.2.1
  have sa0 := hs0.ar
  have tb0 := htk.b
  have lt0 := htk.lt
  refine g_aload_n (pc' := 1) 0 dX10_openBracket_0 rfl rfl ?_
  refine g_aload_n (pc' := 2) 0 dX10_openBracket_1 rfl rfl ?_
  refine g_getI (pc' := 5) dX10_openBracket_2 rfl f_X10_212 rfl rfl (fun v1 ev1 rv1 => ?_)
  refine g_bipush (pc' := 7) (v := 8) dX10_openBracket_5 rfl (by decide) ?_
  refine g_ic_ge (pc' := 10) (tgt := 14) rv1 (by decide) dX10_openBracket_7 rfl rfl (fun c2 => ?_) (fun c2 => ?_)
  · refine g_iconst (pc' := 15) dX10_openBracket_14 rfl ?_
    refine g_callVv (pc' := 18) (As := [vi 0]) (b := 97) (S := []) dX10_openBracket_15 rfl m_X10_187 w_X10_must (c_X10_must X M hi 0 (by decide) htk) rfl ⟨_, _, _, rfl, rfl, rfl⟩ (by decide) (by decide) rfl (Nat.le_of_ble_eq_true rfl) (fun M4 q3 => ?_)
    obtain ⟨iM4, fM40, eM4_97_12, eM4_97_19, eM4_97_21, eM4_97_24, eM4_97_27, eM4_97_28, pM4⟩ := q3
    have fM4 : Fr (fun c => c = 97 ∨ c = 110 ∨ c = 111) M M4 := Fr.tr Fr.rf fM40 fi_31
    have q97_12_M4 : (M4 97 12 = M 97 12) := eM4_97_12
    have q97_19_M4 : (M4 97 19 = M 97 19) := eM4_97_19
    have wM4_97_21 : M4 97 21 = M 97 21 := eM4_97_21
    have wM4_97_27 : M4 97 27 = M 97 27 := eM4_97_27
    have CM4_108 : M4 108 = M 108 := fM40 108 (by decide)
    have CM4_109 : M4 109 = M 109 := fM40 109 (by decide)
    have CM4_110 : M4 110 = M 110 := fM40 110 (by decide)
    have CM4_111 : M4 111 = M 111 := fM40 111 (by decide)
    obtain ⟨aM4p, bM4p, cM4p, kM4p⟩ := pM4
    have tkM4 : TK M4 := kM4p
    clear kM4p
    have tbM4 := tkM4.b
    have siM4 : SI M4 F0 := SI.nx hs0 CM4_110 CM4_111 (by omega) (by omega) (by omega) (by omega)
    have hiM4 := HI.nx hh0 CM4_108 CM4_109 CM4_110 CM4_111 (by omega) (by omega)
    have sqM4 : SQ M4 t := SQ.nx hq0 CM4_110 (by omega) (by omega)
    have loM4 : LO M M4 F0 := LO.tr (LO.rf _ _) (LO.eq CM4_108 CM4_109)
    refine g_aload_n (pc' := 19) 0 dX10_openBracket_18 rfl rfl ?_
    refine g_getI (pc' := 22) dX10_openBracket_19 rfl f_X10_154 rfl rfl (fun v5 ev5 rv5 => ?_)
    refine g_if_ne (pc' := 25) (tgt := 41) rv5 dX10_openBracket_22 rfl rfl (fun c6 => ?_) (fun c6 => ?_)
    · refine g_vreturn dX10_openBracket_41 ?_
      exact ⟨iM4, fM4, q97_12_M4, q97_19_M4, PS.bad siM4 (by omega), LO.eq CM4_108 CM4_109, tkM4, by omega, by omega⟩
    · refine g_aload_n (pc' := 26) 0 dX10_openBracket_25 rfl rfl ?_
      refine g_dup (pc' := 27) dX10_openBracket_26 rfl rfl ?_
      refine g_getI (pc' := 30) dX10_openBracket_27 rfl f_X10_212 rfl rfl (fun v7 ev7 rv7 => ?_)
      refine g_iconst (pc' := 31) dX10_openBracket_30 rfl ?_
      refine g_iadd (pc' := 32) dX10_openBracket_31 rfl ?_
      refine g_nrmI (fun n8 rn8 en8 => ?_)
      have bn8 : (-2147483648 ≤ v7 + 1 ∧ v7 + 1 ≤ 2147483647) → n8 = v7 + 1 := fun h => en8.trans (bm32 h)
      refine g_putI (pc' := 35) dX10_openBracket_32 rfl p_X10_212 rfl rfl rn8 (fun M9 hM9 => ?_)
      have iM9 : IM M9 := IM.wr iM4 hM9 (by unfold okv; first | decide | omega)
      have fM9 : Fr (fun c => c = 97 ∨ c = 110 ∨ c = 111) M M9 := Fr.wr fM4 hM9 (by first | decide | omega | (dsimp only; omega))
      have q97_12_M9 : (M9 97 12 = M 97 12) := (show M9 97 12 = M4 97 12 by rw [hM9]; exact mu_ne _ _ (by first | decide | omega)).trans q97_12_M4
      have q97_19_M9 : (M9 97 19 = M 97 19) := (show M9 97 19 = M4 97 19 by rw [hM9]; exact mu_ne _ _ (by first | decide | omega)).trans q97_19_M4
      have wM9_97_13 : M9 97 13 = M4 97 13 := by rw [hM9]; exact mu_ne _ _ (by first | decide | omega)
      have wM9_97_14 : M9 97 14 = M4 97 14 := by rw [hM9]; exact mu_ne _ _ (by first | decide | omega)
      have wM9_97_15 : M9 97 15 = M4 97 15 := by rw [hM9]; exact mu_ne _ _ (by first | decide | omega)
      have wM9_97_18 : M9 97 18 = M4 97 18 := by rw [hM9]; exact mu_ne _ _ (by first | decide | omega)
      have wM9_97_21 : M9 97 21 = M4 97 21 := by rw [hM9]; exact mu_ne _ _ (by first | decide | omega)
      have wM9_97_27 : M9 97 27 = M4 97 27 := by rw [hM9]; exact mu_ne _ _ (by first | decide | omega)
      have xM9_97_28 : M9 97 28 = n8 := by rw [hM9]; exact mu_at _ _ _ _
      have CM9_108 : M9 108 = M 108 := by rw [hM9, mu_cell _ _ (by decide), CM4_108]
      have CM9_109 : M9 109 = M 109 := by rw [hM9, mu_cell _ _ (by decide), CM4_109]
      have CM9_110 : M9 110 = M 110 := by rw [hM9, mu_cell _ _ (by decide), CM4_110]
      have CM9_111 : M9 111 = M 111 := by rw [hM9, mu_cell _ _ (by decide), CM4_111]
      have tkM9 : TK M9 := TK.eq tkM4 (show M9 97 12 = M4 97 12 by rw [hM9]; exact mu_ne _ _ (by first | decide | omega)) (show M9 97 13 = M4 97 13 by rw [hM9]; exact mu_ne _ _ (by first | decide | omega)) (show M9 97 14 = M4 97 14 by rw [hM9]; exact mu_ne _ _ (by first | decide | omega)) (show M9 97 15 = M4 97 15 by rw [hM9]; exact mu_ne _ _ (by first | decide | omega)) (show M9 97 16 = M4 97 16 by rw [hM9]; exact mu_ne _ _ (by first | decide | omega))
      refine g_aload_n (pc' := 36) 0 dX10_openBracket_35 rfl rfl ?_
      refine g_iload_n (pc' := 37) 1 dX10_openBracket_36 rfl rfl ?_
      refine g_iconst (pc' := 38) dX10_openBracket_37 rfl ?_
      refine g_callVv (pc' := 41) (As := [vi a, vi 0]) (b := 97) (S := []) dX10_openBracket_38 rfl m_X10_215 w_X10_push (c_X10_push X M9 iM9 a ha 0 (by decide) (by omega)) rfl ⟨_, _, _, rfl, rfl, rfl⟩ (by decide) (by decide) rfl (Nat.le_of_ble_eq_true rfl) (fun M11 q10 => ?_)
      obtain ⟨iM11, fM110, eM11_97_12, eM11_97_19, eM11_97_21, eM11_97_24, eM11_97_28, eM11_97_13, eM11_97_14, eM11_97_15, eM11_97_16, eM11_97_18, pM11⟩ := q10
      have fM11 : Fr (fun c => c = 97 ∨ c = 110 ∨ c = 111) M M11 := Fr.tr fM9 fM110 (fun _ z => z)
      have q97_12_M11 : (M11 97 12 = M 97 12) := eM11_97_12.trans q97_12_M9
      have q97_19_M11 : (M11 97 19 = M 97 19) := eM11_97_19.trans q97_19_M9
      have wM11_97_13 : M11 97 13 = M9 97 13 := eM11_97_13
      have wM11_97_14 : M11 97 14 = M9 97 14 := eM11_97_14
      have wM11_97_15 : M11 97 15 = M9 97 15 := eM11_97_15
      have wM11_97_18 : M11 97 18 = M9 97 18 := eM11_97_18
      have wM11_97_21 : M11 97 21 = M9 97 21 := eM11_97_21
      have xM11_97_28 : M11 97 28 = n8 := eM11_97_28.trans xM9_97_28
      have CM11_108 : M11 108 = M 108 := (fM110 108 (by decide)).trans CM9_108
      have CM11_109 : M11 109 = M 109 := (fM110 109 (by decide)).trans CM9_109
      have CM11_110 : M11 110 = ms (M 110) (M 97 27).toNat a := by rw [pM11.1, CM9_110, show M9 97 27 = M 97 27 by omega]
      have CM11_111 : M11 111 = ms (M 111) (M 97 27).toNat 0 := by rw [pM11.2.1, CM9_111, show M9 97 27 = M 97 27 by omega]
      have tkM11 : TK M11 := TK.eq tkM9 eM11_97_12 eM11_97_13 eM11_97_14 eM11_97_15 eM11_97_16
      have ppM11 := pM11.2.2
      clear pM11
      refine g_vreturn dX10_openBracket_41 ?_
      exact ⟨iM11, fM11, q97_12_M11, q97_19_M11, PS.mk_ (q := 0) (SI.push hs0 (by omega) (by omega) CM11_110 CM11_111 (by omega) (by omega) (by omega) (by omega)) (HI.push hs0 hh0 (by omega) CM11_108 CM11_109 CM11_110 CM11_111 (by omega) (by omega)) (SQ.push hq0 CM11_110 (by omega) (by omega) (by omega) (by omega)) (by omega), LO.eq CM11_108 CM11_109, tkM11, by omega, by omega⟩
  · refine g_iconst (pc' := 11) dX10_openBracket_10 rfl ?_
    refine g_goto (tgt := 15) dX10_openBracket_11 rfl ?_
    refine g_callVv (pc' := 18) (As := [vi 1]) (b := 97) (S := []) dX10_openBracket_15 rfl m_X10_187 w_X10_must (c_X10_must X M hi 1 (by decide) htk) rfl ⟨_, _, _, rfl, rfl, rfl⟩ (by decide) (by decide) rfl (Nat.le_of_ble_eq_true rfl) (fun M13 q12 => ?_)
    obtain ⟨iM13, fM130, eM13_97_12, eM13_97_19, eM13_97_21, eM13_97_24, eM13_97_27, eM13_97_28, pM13⟩ := q12
    have fM13 : Fr (fun c => c = 97 ∨ c = 110 ∨ c = 111) M M13 := Fr.tr Fr.rf fM130 fi_31
    have q97_12_M13 : (M13 97 12 = M 97 12) := eM13_97_12
    have q97_19_M13 : (M13 97 19 = M 97 19) := eM13_97_19
    have wM13_97_21 : M13 97 21 = M 97 21 := eM13_97_21
    have wM13_97_27 : M13 97 27 = M 97 27 := eM13_97_27
    have CM13_108 : M13 108 = M 108 := fM130 108 (by decide)
    have CM13_109 : M13 109 = M 109 := fM130 109 (by decide)
    have CM13_110 : M13 110 = M 110 := fM130 110 (by decide)
    have CM13_111 : M13 111 = M 111 := fM130 111 (by decide)
    obtain ⟨aM13p, bM13p, cM13p, kM13p⟩ := pM13
    have tkM13 : TK M13 := kM13p
    clear kM13p
    have tbM13 := tkM13.b
    have siM13 : SI M13 F0 := SI.nx hs0 CM13_110 CM13_111 (by omega) (by omega) (by omega) (by omega)
    have hiM13 := HI.nx hh0 CM13_108 CM13_109 CM13_110 CM13_111 (by omega) (by omega)
    have sqM13 : SQ M13 t := SQ.nx hq0 CM13_110 (by omega) (by omega)
    have loM13 : LO M M13 F0 := LO.tr (LO.rf _ _) (LO.eq CM13_108 CM13_109)
    refine g_aload_n (pc' := 19) 0 dX10_openBracket_18 rfl rfl ?_
    refine g_getI (pc' := 22) dX10_openBracket_19 rfl f_X10_154 rfl rfl (fun v14 ev14 rv14 => ?_)
    refine g_if_ne (pc' := 25) (tgt := 41) rv14 dX10_openBracket_22 rfl rfl (fun c15 => ?_) (fun c15 => ?_)
    · refine g_vreturn dX10_openBracket_41 ?_
      exact ⟨iM13, fM13, q97_12_M13, q97_19_M13, PS.bad siM13 (by omega), LO.eq CM13_108 CM13_109, tkM13, by omega, by omega⟩
    · refine g_aload_n (pc' := 26) 0 dX10_openBracket_25 rfl rfl ?_
      refine g_dup (pc' := 27) dX10_openBracket_26 rfl rfl ?_
      refine g_getI (pc' := 30) dX10_openBracket_27 rfl f_X10_212 rfl rfl (fun v16 ev16 rv16 => ?_)
      refine g_iconst (pc' := 31) dX10_openBracket_30 rfl ?_
      refine g_iadd (pc' := 32) dX10_openBracket_31 rfl ?_
      refine g_nrmI (fun n17 rn17 en17 => ?_)
      have bn17 : (-2147483648 ≤ v16 + 1 ∧ v16 + 1 ≤ 2147483647) → n17 = v16 + 1 := fun h => en17.trans (bm32 h)
      refine g_putI (pc' := 35) dX10_openBracket_32 rfl p_X10_212 rfl rfl rn17 (fun M18 hM18 => ?_)
      have iM18 : IM M18 := IM.wr iM13 hM18 (by unfold okv; first | decide | omega)
      have fM18 : Fr (fun c => c = 97 ∨ c = 110 ∨ c = 111) M M18 := Fr.wr fM13 hM18 (by first | decide | omega | (dsimp only; omega))
      have q97_12_M18 : (M18 97 12 = M 97 12) := (show M18 97 12 = M13 97 12 by rw [hM18]; exact mu_ne _ _ (by first | decide | omega)).trans q97_12_M13
      have q97_19_M18 : (M18 97 19 = M 97 19) := (show M18 97 19 = M13 97 19 by rw [hM18]; exact mu_ne _ _ (by first | decide | omega)).trans q97_19_M13
      have wM18_97_13 : M18 97 13 = M13 97 13 := by rw [hM18]; exact mu_ne _ _ (by first | decide | omega)
      have wM18_97_14 : M18 97 14 = M13 97 14 := by rw [hM18]; exact mu_ne _ _ (by first | decide | omega)
      have wM18_97_15 : M18 97 15 = M13 97 15 := by rw [hM18]; exact mu_ne _ _ (by first | decide | omega)
      have wM18_97_18 : M18 97 18 = M13 97 18 := by rw [hM18]; exact mu_ne _ _ (by first | decide | omega)
      have wM18_97_21 : M18 97 21 = M13 97 21 := by rw [hM18]; exact mu_ne _ _ (by first | decide | omega)
      have wM18_97_27 : M18 97 27 = M13 97 27 := by rw [hM18]; exact mu_ne _ _ (by first | decide | omega)
      have xM18_97_28 : M18 97 28 = n17 := by rw [hM18]; exact mu_at _ _ _ _
      have CM18_108 : M18 108 = M 108 := by rw [hM18, mu_cell _ _ (by decide), CM13_108]
      have CM18_109 : M18 109 = M 109 := by rw [hM18, mu_cell _ _ (by decide), CM13_109]
      have CM18_110 : M18 110 = M 110 := by rw [hM18, mu_cell _ _ (by decide), CM13_110]
      have CM18_111 : M18 111 = M 111 := by rw [hM18, mu_cell _ _ (by decide), CM13_111]
      have tkM18 : TK M18 := TK.eq tkM13 (show M18 97 12 = M13 97 12 by rw [hM18]; exact mu_ne _ _ (by first | decide | omega)) (show M18 97 13 = M13 97 13 by rw [hM18]; exact mu_ne _ _ (by first | decide | omega)) (show M18 97 14 = M13 97 14 by rw [hM18]; exact mu_ne _ _ (by first | decide | omega)) (show M18 97 15 = M13 97 15 by rw [hM18]; exact mu_ne _ _ (by first | decide | omega)) (show M18 97 16 = M13 97 16 by rw [hM18]; exact mu_ne _ _ (by first | decide | omega))
      refine g_aload_n (pc' := 36) 0 dX10_openBracket_35 rfl rfl ?_
      refine g_iload_n (pc' := 37) 1 dX10_openBracket_36 rfl rfl ?_
      refine g_iconst (pc' := 38) dX10_openBracket_37 rfl ?_
      refine g_callVv (pc' := 41) (As := [vi a, vi 0]) (b := 97) (S := []) dX10_openBracket_38 rfl m_X10_215 w_X10_push (c_X10_push X M18 iM18 a ha 0 (by decide) (by omega)) rfl ⟨_, _, _, rfl, rfl, rfl⟩ (by decide) (by decide) rfl (Nat.le_of_ble_eq_true rfl) (fun M20 q19 => ?_)
      obtain ⟨iM20, fM200, eM20_97_12, eM20_97_19, eM20_97_21, eM20_97_24, eM20_97_28, eM20_97_13, eM20_97_14, eM20_97_15, eM20_97_16, eM20_97_18, pM20⟩ := q19
      have fM20 : Fr (fun c => c = 97 ∨ c = 110 ∨ c = 111) M M20 := Fr.tr fM18 fM200 (fun _ z => z)
      have q97_12_M20 : (M20 97 12 = M 97 12) := eM20_97_12.trans q97_12_M18
      have q97_19_M20 : (M20 97 19 = M 97 19) := eM20_97_19.trans q97_19_M18
      have wM20_97_13 : M20 97 13 = M18 97 13 := eM20_97_13
      have wM20_97_14 : M20 97 14 = M18 97 14 := eM20_97_14
      have wM20_97_15 : M20 97 15 = M18 97 15 := eM20_97_15
      have wM20_97_18 : M20 97 18 = M18 97 18 := eM20_97_18
      have wM20_97_21 : M20 97 21 = M18 97 21 := eM20_97_21
      have xM20_97_28 : M20 97 28 = n17 := eM20_97_28.trans xM18_97_28
      have CM20_108 : M20 108 = M 108 := (fM200 108 (by decide)).trans CM18_108
      have CM20_109 : M20 109 = M 109 := (fM200 109 (by decide)).trans CM18_109
      have CM20_110 : M20 110 = ms (M 110) (M 97 27).toNat a := by rw [pM20.1, CM18_110, show M18 97 27 = M 97 27 by omega]
      have CM20_111 : M20 111 = ms (M 111) (M 97 27).toNat 0 := by rw [pM20.2.1, CM18_111, show M18 97 27 = M 97 27 by omega]
      have tkM20 : TK M20 := TK.eq tkM18 eM20_97_12 eM20_97_13 eM20_97_14 eM20_97_15 eM20_97_16
      have ppM20 := pM20.2.2
      clear pM20
      refine g_vreturn dX10_openBracket_41 ?_
      exact ⟨iM20, fM20, q97_12_M20, q97_19_M20, PS.mk_ (q := 0) (SI.push hs0 (by omega) (by omega) CM20_110 CM20_111 (by omega) (by omega) (by omega) (by omega)) (HI.push hs0 hh0 (by omega) CM20_108 CM20_109 CM20_110 CM20_111 (by omega) (by omega)) (SQ.push hq0 CM20_110 (by omega) (by omega) (by omega) (by omega)) (by omega), LO.eq CM20_108 CM20_109, tkM20, by omega, by omega⟩
set_option maxHeartbeats 4000000 in
set_option maxRecDepth 100000 in
theorem c_X10_leaf (X : Cx) (M : Mm) (hi : IM M) (is : Int) (his : inI is) (op : Int) (hop : inI op) (ag : Int) (hag : inI ag) (F0 : Int) (hs0 : SI M F0) (hh0 : HI M F0 0) (htk : TK M) (hop5 : 0 ≤ op ∧ op ≤ 4) (hag2 : op ≠ 0 → 0 ≤ ag ∧ ag ≤ 23) (hiso : is ≠ 0 → M 97 15 ≠ 0) : Con X 3 yX10_leaf cX10_leaf 4 none [vr X 97, vi is, vi op, vi ag] M (Qv (fun M1 => IM M1 ∧ Fr (fun c => c = 97 ∨ c = 108 ∨ c = 109) M M1 ∧ M1 97 12 = M 97 12 ∧ M1 97 19 = M 97 19 ∧ M1 97 27 = M 97 27 ∧ M1 97 28 = M 97 28 ∧ (SI M1 F0 ∧ LF M1 F0 (M 97 21) op ∧ LO M M1 F0 ∧ TK M1 ∧ M 97 13 ≤ M1 97 13 ∧ (M1 97 18 = 0 → M 97 13 < M1 97 13 ∧ M1 97 21 = M 97 21 + 1)))) := by
  refine Con.ofG rfl (Nat.le_of_ble_eq_true rfl) ?_
  show G X 3 RX10 cX10_leaf 4 none (Qv (fun M1 => IM M1 ∧ Fr (fun c => c = 97 ∨ c = 108 ∨ c = 109) M M1 ∧ M1 97 12 = M 97 12 ∧ M1 97 19 = M 97 19 ∧ M1 97 27 = M 97 27 ∧ M1 97 28 = M 97 28 ∧ (SI M1 F0 ∧ LF M1 F0 (M 97 21) op ∧ LO M M1 F0 ∧ TK M1 ∧ M 97 13 ≤ M1 97 13 ∧ (M1 97 18 = 0 → M 97 13 < M1 97 13 ∧ M1 97 21 = M 97 21 + 1)))) 0 [(0, vr X 97), (1, vi is), (2, vi op), (3, vi ag)] [] M
  have p12 := hi.2.2.2.1
  have sa0 := hs0.ar
  have tb0 := htk.b
  have lt0 := htk.lt
  refine g_aload_n (pc' := 1) 0 dX10_leaf_0 rfl rfl ?_
  refine g_iload_n (pc' := 2) 1 dX10_leaf_1 rfl rfl ?_
  refine g_if_eq (pc' := 5) (tgt := 18) his dX10_leaf_2 rfl rfl (fun c1 => ?_) (fun c1 => ?_)
  · refine g_iconst (pc' := 19) dX10_leaf_18 rfl ?_
    refine g_callVv (pc' := 22) (As := [vi 0]) (b := 97) (S := []) dX10_leaf_19 rfl m_X10_187 w_X10_must (c_X10_must X M hi 0 (by decide) htk) rfl ⟨_, _, _, rfl, rfl, rfl⟩ (by decide) (by decide) rfl (Nat.le_of_ble_eq_true rfl) (fun M3 q2 => ?_)
    obtain ⟨iM3, fM30, eM3_97_12, eM3_97_19, eM3_97_21, eM3_97_24, eM3_97_27, eM3_97_28, pM3⟩ := q2
    have fM3 : Fr (fun c => c = 97 ∨ c = 108 ∨ c = 109) M M3 := Fr.tr Fr.rf fM30 fi_32
    have q97_12_M3 : (M3 97 12 = M 97 12) := eM3_97_12
    have q97_19_M3 : (M3 97 19 = M 97 19) := eM3_97_19
    have q97_27_M3 : (M3 97 27 = M 97 27) := eM3_97_27
    have q97_28_M3 : (M3 97 28 = M 97 28) := eM3_97_28
    have wM3_97_21 : M3 97 21 = M 97 21 := eM3_97_21
    have wM3_97_27 : M3 97 27 = M 97 27 := eM3_97_27
    have CM3_108 : M3 108 = M 108 := fM30 108 (by decide)
    have CM3_109 : M3 109 = M 109 := fM30 109 (by decide)
    have CM3_110 : M3 110 = M 110 := fM30 110 (by decide)
    have CM3_111 : M3 111 = M 111 := fM30 111 (by decide)
    obtain ⟨aM3p, bM3p, cM3p, kM3p⟩ := pM3
    have tkM3 : TK M3 := kM3p
    clear kM3p
    have tbM3 := tkM3.b
    have siM3 : SI M3 F0 := SI.nx hs0 CM3_110 CM3_111 (by omega) (by omega) (by omega) (by omega)
    have hiM3 := HI.nx hh0 CM3_108 CM3_109 CM3_110 CM3_111 (by omega) (by omega)
    have loM3 : LO M M3 F0 := LO.tr (LO.rf _ _) (LO.eq CM3_108 CM3_109)
    refine g_aload_n (pc' := 23) 0 dX10_leaf_22 rfl rfl ?_
    refine g_getI (pc' := 26) dX10_leaf_23 rfl f_X10_154 rfl rfl (fun v4 ev4 rv4 => ?_)
    refine g_if_ne (pc' := 29) (tgt := 45) rv4 dX10_leaf_26 rfl rfl (fun c5 => ?_) (fun c5 => ?_)
    · refine g_vreturn dX10_leaf_45 ?_
      exact ⟨iM3, fM3, q97_12_M3, q97_19_M3, q97_27_M3, q97_28_M3, siM3, LF.bad (by omega), LO.eq CM3_108 CM3_109, tkM3, by omega, by omega⟩
    · refine g_aload_n (pc' := 30) 0 dX10_leaf_29 rfl rfl ?_
      refine g_iload_n (pc' := 31) 2 dX10_leaf_30 rfl rfl ?_
      refine g_iload_n (pc' := 32) 3 dX10_leaf_31 rfl rfl ?_
      refine g_callVv (pc' := 35) (As := [vi op, vi ag]) (b := 97) (S := []) dX10_leaf_32 rfl m_X10_200 w_X10_emit (c_X10_emit X M3 iM3 op hop ag hag (by omega)) rfl ⟨_, _, _, rfl, rfl, rfl⟩ (by decide) (by decide) rfl (Nat.le_of_ble_eq_true rfl) (fun M7 q6 => ?_)
      obtain ⟨iM7, fM70, eM7_97_12, eM7_97_19, eM7_97_24, eM7_97_27, eM7_97_28, eM7_97_13, eM7_97_14, eM7_97_15, eM7_97_16, eM7_97_18, pM7⟩ := q6
      have fM7 : Fr (fun c => c = 97 ∨ c = 108 ∨ c = 109) M M7 := Fr.tr fM3 fM70 (fun _ z => z)
      have q97_12_M7 : (M7 97 12 = M 97 12) := eM7_97_12.trans q97_12_M3
      have q97_19_M7 : (M7 97 19 = M 97 19) := eM7_97_19.trans q97_19_M3
      have q97_27_M7 : (M7 97 27 = M 97 27) := eM7_97_27.trans q97_27_M3
      have q97_28_M7 : (M7 97 28 = M 97 28) := eM7_97_28.trans q97_28_M3
      have wM7_97_13 : M7 97 13 = M3 97 13 := eM7_97_13
      have wM7_97_14 : M7 97 14 = M3 97 14 := eM7_97_14
      have wM7_97_15 : M7 97 15 = M3 97 15 := eM7_97_15
      have wM7_97_18 : M7 97 18 = M3 97 18 := eM7_97_18
      have wM7_97_27 : M7 97 27 = M3 97 27 := eM7_97_27
      have CM7_108 : M7 108 = ms (M 108) (M 97 21).toNat op := by rw [pM7.1, CM3_108, show M3 97 21 = M 97 21 by omega]
      have CM7_109 : M7 109 = ms (M 109) (M 97 21).toNat ag := by rw [pM7.2.1, CM3_109, show M3 97 21 = M 97 21 by omega]
      have CM7_110 : M7 110 = M 110 := (fM70 110 (by decide)).trans CM3_110
      have CM7_111 : M7 111 = M 111 := (fM70 111 (by decide)).trans CM3_111
      have tkM7 : TK M7 := TK.eq tkM3 eM7_97_12 eM7_97_13 eM7_97_14 eM7_97_15 eM7_97_16
      have ppM7 := pM7.2.2
      clear pM7
      refine g_aload_n (pc' := 36) 0 dX10_leaf_35 rfl rfl ?_
      refine g_dup (pc' := 37) dX10_leaf_36 rfl rfl ?_
      refine g_getI (pc' := 40) dX10_leaf_37 rfl f_X10_218 rfl rfl (fun v8 ev8 rv8 => ?_)
      refine g_iconst (pc' := 41) dX10_leaf_40 rfl ?_
      refine g_iadd (pc' := 42) dX10_leaf_41 rfl ?_
      refine g_nrmI (fun n9 rn9 en9 => ?_)
      have bn9 : (-2147483648 ≤ v8 + 1 ∧ v8 + 1 ≤ 2147483647) → n9 = v8 + 1 := fun h => en9.trans (bm32 h)
      refine g_putI (pc' := 45) dX10_leaf_42 rfl p_X10_218 rfl rfl rn9 (fun M10 hM10 => ?_)
      have iM10 : IM M10 := IM.wr iM7 hM10 (by unfold okv; first | decide | omega)
      have fM10 : Fr (fun c => c = 97 ∨ c = 108 ∨ c = 109) M M10 := Fr.wr fM7 hM10 (by first | decide | omega | (dsimp only; omega))
      have q97_12_M10 : (M10 97 12 = M 97 12) := (show M10 97 12 = M7 97 12 by rw [hM10]; exact mu_ne _ _ (by first | decide | omega)).trans q97_12_M7
      have q97_19_M10 : (M10 97 19 = M 97 19) := (show M10 97 19 = M7 97 19 by rw [hM10]; exact mu_ne _ _ (by first | decide | omega)).trans q97_19_M7
      have q97_27_M10 : (M10 97 27 = M 97 27) := (show M10 97 27 = M7 97 27 by rw [hM10]; exact mu_ne _ _ (by first | decide | omega)).trans q97_27_M7
      have q97_28_M10 : (M10 97 28 = M 97 28) := (show M10 97 28 = M7 97 28 by rw [hM10]; exact mu_ne _ _ (by first | decide | omega)).trans q97_28_M7
      have wM10_97_13 : M10 97 13 = M7 97 13 := by rw [hM10]; exact mu_ne _ _ (by first | decide | omega)
      have wM10_97_14 : M10 97 14 = M7 97 14 := by rw [hM10]; exact mu_ne _ _ (by first | decide | omega)
      have wM10_97_15 : M10 97 15 = M7 97 15 := by rw [hM10]; exact mu_ne _ _ (by first | decide | omega)
      have wM10_97_18 : M10 97 18 = M7 97 18 := by rw [hM10]; exact mu_ne _ _ (by first | decide | omega)
      have wM10_97_21 : M10 97 21 = M7 97 21 := by rw [hM10]; exact mu_ne _ _ (by first | decide | omega)
      have wM10_97_27 : M10 97 27 = M7 97 27 := by rw [hM10]; exact mu_ne _ _ (by first | decide | omega)
      have xM10_97_24 : M10 97 24 = n9 := by rw [hM10]; exact mu_at _ _ _ _
      have CM10_108 : M10 108 = ms (M 108) (M 97 21).toNat op := by rw [hM10, mu_cell _ _ (by decide), CM7_108]
      have CM10_109 : M10 109 = ms (M 109) (M 97 21).toNat ag := by rw [hM10, mu_cell _ _ (by decide), CM7_109]
      have CM10_110 : M10 110 = M 110 := by rw [hM10, mu_cell _ _ (by decide), CM7_110]
      have CM10_111 : M10 111 = M 111 := by rw [hM10, mu_cell _ _ (by decide), CM7_111]
      have tkM10 : TK M10 := TK.eq tkM7 (show M10 97 12 = M7 97 12 by rw [hM10]; exact mu_ne _ _ (by first | decide | omega)) (show M10 97 13 = M7 97 13 by rw [hM10]; exact mu_ne _ _ (by first | decide | omega)) (show M10 97 14 = M7 97 14 by rw [hM10]; exact mu_ne _ _ (by first | decide | omega)) (show M10 97 15 = M7 97 15 by rw [hM10]; exact mu_ne _ _ (by first | decide | omega)) (show M10 97 16 = M7 97 16 by rw [hM10]; exact mu_ne _ _ (by first | decide | omega))
      refine g_vreturn dX10_leaf_45 ?_
      exact ⟨iM10, fM10, q97_12_M10, q97_19_M10, q97_27_M10, q97_28_M10, SI.leaf hs0 CM10_110 CM10_111 (by omega) (by omega) (by omega) (by omega), (fun _ => ⟨HI.leaf hs0 hh0 hop5 hag2 CM10_108 CM10_109 CM10_110 CM10_111 (by omega) (by omega), by rw [CM10_108, ms_at]⟩), LO.em CM10_108 CM10_109 (by omega) (by omega), tkM10, by omega, by omega⟩
  · refine g_aload_n (pc' := 6) 0 dX10_leaf_5 rfl rfl ?_
    refine g_getI (pc' := 9) dX10_leaf_6 rfl f_X10_218 rfl rfl (fun v11 ev11 rv11 => ?_)
    refine g_bipush (pc' := 11) (v := 50) dX10_leaf_9 rfl (by decide) ?_
    refine g_ic_ge (pc' := 14) (tgt := 18) rv11 (by decide) dX10_leaf_11 rfl rfl (fun c12 => ?_) (fun c12 => ?_)
    · refine g_iconst (pc' := 19) dX10_leaf_18 rfl ?_
      refine g_callVv (pc' := 22) (As := [vi 0]) (b := 97) (S := []) dX10_leaf_19 rfl m_X10_187 w_X10_must (c_X10_must X M hi 0 (by decide) htk) rfl ⟨_, _, _, rfl, rfl, rfl⟩ (by decide) (by decide) rfl (Nat.le_of_ble_eq_true rfl) (fun M14 q13 => ?_)
      obtain ⟨iM14, fM140, eM14_97_12, eM14_97_19, eM14_97_21, eM14_97_24, eM14_97_27, eM14_97_28, pM14⟩ := q13
      have fM14 : Fr (fun c => c = 97 ∨ c = 108 ∨ c = 109) M M14 := Fr.tr Fr.rf fM140 fi_32
      have q97_12_M14 : (M14 97 12 = M 97 12) := eM14_97_12
      have q97_19_M14 : (M14 97 19 = M 97 19) := eM14_97_19
      have q97_27_M14 : (M14 97 27 = M 97 27) := eM14_97_27
      have q97_28_M14 : (M14 97 28 = M 97 28) := eM14_97_28
      have wM14_97_21 : M14 97 21 = M 97 21 := eM14_97_21
      have wM14_97_27 : M14 97 27 = M 97 27 := eM14_97_27
      have CM14_108 : M14 108 = M 108 := fM140 108 (by decide)
      have CM14_109 : M14 109 = M 109 := fM140 109 (by decide)
      have CM14_110 : M14 110 = M 110 := fM140 110 (by decide)
      have CM14_111 : M14 111 = M 111 := fM140 111 (by decide)
      obtain ⟨aM14p, bM14p, cM14p, kM14p⟩ := pM14
      have tkM14 : TK M14 := kM14p
      clear kM14p
      have tbM14 := tkM14.b
      have siM14 : SI M14 F0 := SI.nx hs0 CM14_110 CM14_111 (by omega) (by omega) (by omega) (by omega)
      have hiM14 := HI.nx hh0 CM14_108 CM14_109 CM14_110 CM14_111 (by omega) (by omega)
      have loM14 : LO M M14 F0 := LO.tr (LO.rf _ _) (LO.eq CM14_108 CM14_109)
      refine g_aload_n (pc' := 23) 0 dX10_leaf_22 rfl rfl ?_
      refine g_getI (pc' := 26) dX10_leaf_23 rfl f_X10_154 rfl rfl (fun v15 ev15 rv15 => ?_)
      refine g_if_ne (pc' := 29) (tgt := 45) rv15 dX10_leaf_26 rfl rfl (fun c16 => ?_) (fun c16 => ?_)
      · refine g_vreturn dX10_leaf_45 ?_
        exact ⟨iM14, fM14, q97_12_M14, q97_19_M14, q97_27_M14, q97_28_M14, siM14, LF.bad (by omega), LO.eq CM14_108 CM14_109, tkM14, by omega, by omega⟩
      · refine g_aload_n (pc' := 30) 0 dX10_leaf_29 rfl rfl ?_
        refine g_iload_n (pc' := 31) 2 dX10_leaf_30 rfl rfl ?_
        refine g_iload_n (pc' := 32) 3 dX10_leaf_31 rfl rfl ?_
        refine g_callVv (pc' := 35) (As := [vi op, vi ag]) (b := 97) (S := []) dX10_leaf_32 rfl m_X10_200 w_X10_emit (c_X10_emit X M14 iM14 op hop ag hag (by omega)) rfl ⟨_, _, _, rfl, rfl, rfl⟩ (by decide) (by decide) rfl (Nat.le_of_ble_eq_true rfl) (fun M18 q17 => ?_)
        obtain ⟨iM18, fM180, eM18_97_12, eM18_97_19, eM18_97_24, eM18_97_27, eM18_97_28, eM18_97_13, eM18_97_14, eM18_97_15, eM18_97_16, eM18_97_18, pM18⟩ := q17
        have fM18 : Fr (fun c => c = 97 ∨ c = 108 ∨ c = 109) M M18 := Fr.tr fM14 fM180 (fun _ z => z)
        have q97_12_M18 : (M18 97 12 = M 97 12) := eM18_97_12.trans q97_12_M14
        have q97_19_M18 : (M18 97 19 = M 97 19) := eM18_97_19.trans q97_19_M14
        have q97_27_M18 : (M18 97 27 = M 97 27) := eM18_97_27.trans q97_27_M14
        have q97_28_M18 : (M18 97 28 = M 97 28) := eM18_97_28.trans q97_28_M14
        have wM18_97_13 : M18 97 13 = M14 97 13 := eM18_97_13
        have wM18_97_14 : M18 97 14 = M14 97 14 := eM18_97_14
        have wM18_97_15 : M18 97 15 = M14 97 15 := eM18_97_15
        have wM18_97_18 : M18 97 18 = M14 97 18 := eM18_97_18
        have wM18_97_27 : M18 97 27 = M14 97 27 := eM18_97_27
        have CM18_108 : M18 108 = ms (M 108) (M 97 21).toNat op := by rw [pM18.1, CM14_108, show M14 97 21 = M 97 21 by omega]
        have CM18_109 : M18 109 = ms (M 109) (M 97 21).toNat ag := by rw [pM18.2.1, CM14_109, show M14 97 21 = M 97 21 by omega]
        have CM18_110 : M18 110 = M 110 := (fM180 110 (by decide)).trans CM14_110
        have CM18_111 : M18 111 = M 111 := (fM180 111 (by decide)).trans CM14_111
        have tkM18 : TK M18 := TK.eq tkM14 eM18_97_12 eM18_97_13 eM18_97_14 eM18_97_15 eM18_97_16
        have ppM18 := pM18.2.2
        clear pM18
        refine g_aload_n (pc' := 36) 0 dX10_leaf_35 rfl rfl ?_
        refine g_dup (pc' := 37) dX10_leaf_36 rfl rfl ?_
        refine g_getI (pc' := 40) dX10_leaf_37 rfl f_X10_218 rfl rfl (fun v19 ev19 rv19 => ?_)
        refine g_iconst (pc' := 41) dX10_leaf_40 rfl ?_
        refine g_iadd (pc' := 42) dX10_leaf_41 rfl ?_
        refine g_nrmI (fun n20 rn20 en20 => ?_)
        have bn20 : (-2147483648 ≤ v19 + 1 ∧ v19 + 1 ≤ 2147483647) → n20 = v19 + 1 := fun h => en20.trans (bm32 h)
        refine g_putI (pc' := 45) dX10_leaf_42 rfl p_X10_218 rfl rfl rn20 (fun M21 hM21 => ?_)
        have iM21 : IM M21 := IM.wr iM18 hM21 (by unfold okv; first | decide | omega)
        have fM21 : Fr (fun c => c = 97 ∨ c = 108 ∨ c = 109) M M21 := Fr.wr fM18 hM21 (by first | decide | omega | (dsimp only; omega))
        have q97_12_M21 : (M21 97 12 = M 97 12) := (show M21 97 12 = M18 97 12 by rw [hM21]; exact mu_ne _ _ (by first | decide | omega)).trans q97_12_M18
        have q97_19_M21 : (M21 97 19 = M 97 19) := (show M21 97 19 = M18 97 19 by rw [hM21]; exact mu_ne _ _ (by first | decide | omega)).trans q97_19_M18
        have q97_27_M21 : (M21 97 27 = M 97 27) := (show M21 97 27 = M18 97 27 by rw [hM21]; exact mu_ne _ _ (by first | decide | omega)).trans q97_27_M18
        have q97_28_M21 : (M21 97 28 = M 97 28) := (show M21 97 28 = M18 97 28 by rw [hM21]; exact mu_ne _ _ (by first | decide | omega)).trans q97_28_M18
        have wM21_97_13 : M21 97 13 = M18 97 13 := by rw [hM21]; exact mu_ne _ _ (by first | decide | omega)
        have wM21_97_14 : M21 97 14 = M18 97 14 := by rw [hM21]; exact mu_ne _ _ (by first | decide | omega)
        have wM21_97_15 : M21 97 15 = M18 97 15 := by rw [hM21]; exact mu_ne _ _ (by first | decide | omega)
        have wM21_97_18 : M21 97 18 = M18 97 18 := by rw [hM21]; exact mu_ne _ _ (by first | decide | omega)
        have wM21_97_21 : M21 97 21 = M18 97 21 := by rw [hM21]; exact mu_ne _ _ (by first | decide | omega)
        have wM21_97_27 : M21 97 27 = M18 97 27 := by rw [hM21]; exact mu_ne _ _ (by first | decide | omega)
        have xM21_97_24 : M21 97 24 = n20 := by rw [hM21]; exact mu_at _ _ _ _
        have CM21_108 : M21 108 = ms (M 108) (M 97 21).toNat op := by rw [hM21, mu_cell _ _ (by decide), CM18_108]
        have CM21_109 : M21 109 = ms (M 109) (M 97 21).toNat ag := by rw [hM21, mu_cell _ _ (by decide), CM18_109]
        have CM21_110 : M21 110 = M 110 := by rw [hM21, mu_cell _ _ (by decide), CM18_110]
        have CM21_111 : M21 111 = M 111 := by rw [hM21, mu_cell _ _ (by decide), CM18_111]
        have tkM21 : TK M21 := TK.eq tkM18 (show M21 97 12 = M18 97 12 by rw [hM21]; exact mu_ne _ _ (by first | decide | omega)) (show M21 97 13 = M18 97 13 by rw [hM21]; exact mu_ne _ _ (by first | decide | omega)) (show M21 97 14 = M18 97 14 by rw [hM21]; exact mu_ne _ _ (by first | decide | omega)) (show M21 97 15 = M18 97 15 by rw [hM21]; exact mu_ne _ _ (by first | decide | omega)) (show M21 97 16 = M18 97 16 by rw [hM21]; exact mu_ne _ _ (by first | decide | omega))
        refine g_vreturn dX10_leaf_45 ?_
        exact ⟨iM21, fM21, q97_12_M21, q97_19_M21, q97_27_M21, q97_28_M21, SI.leaf hs0 CM21_110 CM21_111 (by omega) (by omega) (by omega) (by omega), (fun _ => ⟨HI.leaf hs0 hh0 hop5 hag2 CM21_108 CM21_109 CM21_110 CM21_111 (by omega) (by omega), by rw [CM21_108, ms_at]⟩), LO.em CM21_108 CM21_109 (by omega) (by omega), tkM21, by omega, by omega⟩
    · refine g_iconst (pc' := 15) dX10_leaf_14 rfl ?_
      refine g_goto (tgt := 19) dX10_leaf_15 rfl ?_
      refine g_callVv (pc' := 22) (As := [vi 1]) (b := 97) (S := []) dX10_leaf_19 rfl m_X10_187 w_X10_must (c_X10_must X M hi 1 (by decide) htk) rfl ⟨_, _, _, rfl, rfl, rfl⟩ (by decide) (by decide) rfl (Nat.le_of_ble_eq_true rfl) (fun M23 q22 => ?_)
      obtain ⟨iM23, fM230, eM23_97_12, eM23_97_19, eM23_97_21, eM23_97_24, eM23_97_27, eM23_97_28, pM23⟩ := q22
      have fM23 : Fr (fun c => c = 97 ∨ c = 108 ∨ c = 109) M M23 := Fr.tr Fr.rf fM230 fi_32
      have q97_12_M23 : (M23 97 12 = M 97 12) := eM23_97_12
      have q97_19_M23 : (M23 97 19 = M 97 19) := eM23_97_19
      have q97_27_M23 : (M23 97 27 = M 97 27) := eM23_97_27
      have q97_28_M23 : (M23 97 28 = M 97 28) := eM23_97_28
      have wM23_97_21 : M23 97 21 = M 97 21 := eM23_97_21
      have wM23_97_27 : M23 97 27 = M 97 27 := eM23_97_27
      have CM23_108 : M23 108 = M 108 := fM230 108 (by decide)
      have CM23_109 : M23 109 = M 109 := fM230 109 (by decide)
      have CM23_110 : M23 110 = M 110 := fM230 110 (by decide)
      have CM23_111 : M23 111 = M 111 := fM230 111 (by decide)
      obtain ⟨aM23p, bM23p, cM23p, kM23p⟩ := pM23
      have tkM23 : TK M23 := kM23p
      clear kM23p
      have tbM23 := tkM23.b
      have siM23 : SI M23 F0 := SI.nx hs0 CM23_110 CM23_111 (by omega) (by omega) (by omega) (by omega)
      have hiM23 := HI.nx hh0 CM23_108 CM23_109 CM23_110 CM23_111 (by omega) (by omega)
      have loM23 : LO M M23 F0 := LO.tr (LO.rf _ _) (LO.eq CM23_108 CM23_109)
      refine g_aload_n (pc' := 23) 0 dX10_leaf_22 rfl rfl ?_
      refine g_getI (pc' := 26) dX10_leaf_23 rfl f_X10_154 rfl rfl (fun v24 ev24 rv24 => ?_)
      refine g_if_ne (pc' := 29) (tgt := 45) rv24 dX10_leaf_26 rfl rfl (fun c25 => ?_) (fun c25 => ?_)
      · refine g_vreturn dX10_leaf_45 ?_
        exact ⟨iM23, fM23, q97_12_M23, q97_19_M23, q97_27_M23, q97_28_M23, siM23, LF.bad (by omega), LO.eq CM23_108 CM23_109, tkM23, by omega, by omega⟩
      · refine g_aload_n (pc' := 30) 0 dX10_leaf_29 rfl rfl ?_
        refine g_iload_n (pc' := 31) 2 dX10_leaf_30 rfl rfl ?_
        refine g_iload_n (pc' := 32) 3 dX10_leaf_31 rfl rfl ?_
        refine g_callVv (pc' := 35) (As := [vi op, vi ag]) (b := 97) (S := []) dX10_leaf_32 rfl m_X10_200 w_X10_emit (c_X10_emit X M23 iM23 op hop ag hag (by omega)) rfl ⟨_, _, _, rfl, rfl, rfl⟩ (by decide) (by decide) rfl (Nat.le_of_ble_eq_true rfl) (fun M27 q26 => ?_)
        obtain ⟨iM27, fM270, eM27_97_12, eM27_97_19, eM27_97_24, eM27_97_27, eM27_97_28, eM27_97_13, eM27_97_14, eM27_97_15, eM27_97_16, eM27_97_18, pM27⟩ := q26
        have fM27 : Fr (fun c => c = 97 ∨ c = 108 ∨ c = 109) M M27 := Fr.tr fM23 fM270 (fun _ z => z)
        have q97_12_M27 : (M27 97 12 = M 97 12) := eM27_97_12.trans q97_12_M23
        have q97_19_M27 : (M27 97 19 = M 97 19) := eM27_97_19.trans q97_19_M23
        have q97_27_M27 : (M27 97 27 = M 97 27) := eM27_97_27.trans q97_27_M23
        have q97_28_M27 : (M27 97 28 = M 97 28) := eM27_97_28.trans q97_28_M23
        have wM27_97_13 : M27 97 13 = M23 97 13 := eM27_97_13
        have wM27_97_14 : M27 97 14 = M23 97 14 := eM27_97_14
        have wM27_97_15 : M27 97 15 = M23 97 15 := eM27_97_15
        have wM27_97_18 : M27 97 18 = M23 97 18 := eM27_97_18
        have wM27_97_27 : M27 97 27 = M23 97 27 := eM27_97_27
        have CM27_108 : M27 108 = ms (M 108) (M 97 21).toNat op := by rw [pM27.1, CM23_108, show M23 97 21 = M 97 21 by omega]
        have CM27_109 : M27 109 = ms (M 109) (M 97 21).toNat ag := by rw [pM27.2.1, CM23_109, show M23 97 21 = M 97 21 by omega]
        have CM27_110 : M27 110 = M 110 := (fM270 110 (by decide)).trans CM23_110
        have CM27_111 : M27 111 = M 111 := (fM270 111 (by decide)).trans CM23_111
        have tkM27 : TK M27 := TK.eq tkM23 eM27_97_12 eM27_97_13 eM27_97_14 eM27_97_15 eM27_97_16
        have ppM27 := pM27.2.2
        clear pM27
        refine g_aload_n (pc' := 36) 0 dX10_leaf_35 rfl rfl ?_
        refine g_dup (pc' := 37) dX10_leaf_36 rfl rfl ?_
        refine g_getI (pc' := 40) dX10_leaf_37 rfl f_X10_218 rfl rfl (fun v28 ev28 rv28 => ?_)
        refine g_iconst (pc' := 41) dX10_leaf_40 rfl ?_
        refine g_iadd (pc' := 42) dX10_leaf_41 rfl ?_
        refine g_nrmI (fun n29 rn29 en29 => ?_)
        have bn29 : (-2147483648 ≤ v28 + 1 ∧ v28 + 1 ≤ 2147483647) → n29 = v28 + 1 := fun h => en29.trans (bm32 h)
        refine g_putI (pc' := 45) dX10_leaf_42 rfl p_X10_218 rfl rfl rn29 (fun M30 hM30 => ?_)
        have iM30 : IM M30 := IM.wr iM27 hM30 (by unfold okv; first | decide | omega)
        have fM30 : Fr (fun c => c = 97 ∨ c = 108 ∨ c = 109) M M30 := Fr.wr fM27 hM30 (by first | decide | omega | (dsimp only; omega))
        have q97_12_M30 : (M30 97 12 = M 97 12) := (show M30 97 12 = M27 97 12 by rw [hM30]; exact mu_ne _ _ (by first | decide | omega)).trans q97_12_M27
        have q97_19_M30 : (M30 97 19 = M 97 19) := (show M30 97 19 = M27 97 19 by rw [hM30]; exact mu_ne _ _ (by first | decide | omega)).trans q97_19_M27
        have q97_27_M30 : (M30 97 27 = M 97 27) := (show M30 97 27 = M27 97 27 by rw [hM30]; exact mu_ne _ _ (by first | decide | omega)).trans q97_27_M27
        have q97_28_M30 : (M30 97 28 = M 97 28) := (show M30 97 28 = M27 97 28 by rw [hM30]; exact mu_ne _ _ (by first | decide | omega)).trans q97_28_M27
        have wM30_97_13 : M30 97 13 = M27 97 13 := by rw [hM30]; exact mu_ne _ _ (by first | decide | omega)
        have wM30_97_14 : M30 97 14 = M27 97 14 := by rw [hM30]; exact mu_ne _ _ (by first | decide | omega)
        have wM30_97_15 : M30 97 15 = M27 97 15 := by rw [hM30]; exact mu_ne _ _ (by first | decide | omega)
        have wM30_97_18 : M30 97 18 = M27 97 18 := by rw [hM30]; exact mu_ne _ _ (by first | decide | omega)
        have wM30_97_21 : M30 97 21 = M27 97 21 := by rw [hM30]; exact mu_ne _ _ (by first | decide | omega)
        have wM30_97_27 : M30 97 27 = M27 97 27 := by rw [hM30]; exact mu_ne _ _ (by first | decide | omega)
        have xM30_97_24 : M30 97 24 = n29 := by rw [hM30]; exact mu_at _ _ _ _
        have CM30_108 : M30 108 = ms (M 108) (M 97 21).toNat op := by rw [hM30, mu_cell _ _ (by decide), CM27_108]
        have CM30_109 : M30 109 = ms (M 109) (M 97 21).toNat ag := by rw [hM30, mu_cell _ _ (by decide), CM27_109]
        have CM30_110 : M30 110 = M 110 := by rw [hM30, mu_cell _ _ (by decide), CM27_110]
        have CM30_111 : M30 111 = M 111 := by rw [hM30, mu_cell _ _ (by decide), CM27_111]
        have tkM30 : TK M30 := TK.eq tkM27 (show M30 97 12 = M27 97 12 by rw [hM30]; exact mu_ne _ _ (by first | decide | omega)) (show M30 97 13 = M27 97 13 by rw [hM30]; exact mu_ne _ _ (by first | decide | omega)) (show M30 97 14 = M27 97 14 by rw [hM30]; exact mu_ne _ _ (by first | decide | omega)) (show M30 97 15 = M27 97 15 by rw [hM30]; exact mu_ne _ _ (by first | decide | omega)) (show M30 97 16 = M27 97 16 by rw [hM30]; exact mu_ne _ _ (by first | decide | omega))
        refine g_vreturn dX10_leaf_45 ?_
        exact ⟨iM30, fM30, q97_12_M30, q97_19_M30, q97_27_M30, q97_28_M30, SI.leaf hs0 CM30_110 CM30_111 (by omega) (by omega) (by omega) (by omega), (fun _ => ⟨HI.leaf hs0 hh0 hop5 hag2 CM30_108 CM30_109 CM30_110 CM30_111 (by omega) (by omega), by rw [CM30_108, ms_at]⟩), LO.em CM30_108 CM30_109 (by omega) (by omega), tkM30, by omega, by omega⟩
set_option maxHeartbeats 4000000 in
set_option maxRecDepth 100000 in
theorem j_X10_readPart_199 (X : Cx) (M : Mm) (hi : IM M) (F0 : Int) (hs0 : SI M F0) (hh0 : HI M F0 0) (t : Int) (ht01 : t = 0 ∨ t = 1) (hq0 : SQ M t) (htk : TK M) (hbad : M 97 18 = 0) (its : Int) (at_ : Int) (sf : Int) (gl : Int) (M1 : Mm) (ic1 : IM M1) (fr1 : Fr (fun c => c = 97 ∨ (108 ≤ c ∧ c ≤ 111)) M M1) (q97_12 : (M1 97 12 = M 97 12)) (q97_19 : (M1 97 19 = M 97 19)) (ov : Int) (hov : (its = -1 ∧ ov = 0) ∨ ov = its) (si1 : SI M1 F0) (lf1 : LF M1 F0 (M 97 21) ov) (lo1 : LO M M1 F0) (sq1 : SQ M1 3) (tk1 : TK M1) (fa1 : M 97 13 ≤ M1 97 13) (fb1 : M1 97 18 = 0 → M 97 13 < M1 97 13 ∧ M1 97 21 = M 97 21 + 1) (hit : its = -1 ∨ (1 ≤ its ∧ its ≤ 4)) (hat : M1 97 18 = 0 → (at_ = M 97 21 ∧ 0 ≤ sf ∧ sf ≤ 3)) (hsf : (0 ≤ sf ∧ sf ≤ 1000) ∧ (-1 ≤ at_ ∧ at_ ≤ 400)) (hgl : M1 97 18 = 0 → 0 ≤ gl ∧ gl ≤ 5) (hg0 : 0 ≤ gl ∧ gl ≤ 1000) : G X 4 RX10 cX10_readPart 6 (some .int) (Qi (fun r M1 => IM M1 ∧ Fr (fun c => c = 97 ∨ (108 ≤ c ∧ c ≤ 111)) M M1 ∧ M1 97 12 = M 97 12 ∧ M1 97 19 = M 97 19 ∧ ((0 ≤ r ∧ r ≤ 4) ∧ PS M1 F0 r ∧ LO M M1 F0 ∧ TK M1 ∧ M 97 13 ≤ M1 97 13 ∧ mz (M1 97 13) (M1 97 18) r < mz (M 97 13) (M 97 18) t))) 199 [(1, vi its), (3, vi at_), (4, vi sf), (5, vi gl), (0, vr X 97)] [] M1 := by
  have p12 := hi.2.2.2.1
  have sa0 := hs0.ar
  have sa1 := si1.ar
  have tb1 := tk1.b
  have lt1 := tk1.lt
  refine g_aload_n (pc' := 200) 4 dX10_readPart_199 rfl rfl ?_
  refine g_getI (pc' := 203) dX10_readPart_200 rfl f_X10_154 rfl rfl (fun v1 ev1 rv1 => ?_)
  refine g_if_ne (pc' := 206) (tgt := 225) rv1 dX10_readPart_203 rfl rfl (fun c2 => ?_) (fun c2 => ?_)
  · refine g_iconst (pc' := 226) dX10_readPart_225 rfl ?_
    refine g_ireturn dX10_readPart_226 ?_
    exact ⟨ic1, fr1, q97_12, q97_19, ⟨by omega, by omega⟩, (PS.lf si1 lf1 sq1), lo1, tk1, by omega, (mz_lt hbad (by omega) (by omega) (by omega))⟩
  · refine g_iload_n (pc' := 207) 0 dX10_readPart_206 rfl rfl ?_
    refine g_iconst (pc' := 208) dX10_readPart_207 rfl ?_
    refine g_ic_eq (pc' := 211) (tgt := 225) ⟨by omega, by omega⟩ (by decide) dX10_readPart_208 rfl rfl (fun c3 => ?_) (fun c3 => ?_)
    · refine g_iconst (pc' := 226) dX10_readPart_225 rfl ?_
      refine g_ireturn dX10_readPart_226 ?_
      exact ⟨ic1, fr1, q97_12, q97_19, ⟨by omega, by omega⟩, (PS.lf si1 lf1 sq1), lo1, tk1, by omega, (mz_lt hbad (by omega) (by omega) (by omega))⟩
    · refine g_aload_n (pc' := 212) 4 dX10_readPart_211 rfl rfl ?_
      refine g_getR (pc' := 215) dX10_readPart_212 rfl f_X10_49 rfl rfl ?_
      refine g_iload_n (pc' := 216) 1 dX10_readPart_215 rfl rfl ?_
      refine g_bipush (pc' := 218) (v := 6) dX10_readPart_216 rfl (by decide) ?_
      refine g_iload (pc' := 220) 2 dX10_readPart_218 rfl rfl ?_
      refine g_imul (pc' := 221) dX10_readPart_220 rfl ?_
      refine g_iload (pc' := 223) 3 dX10_readPart_221 rfl rfl ?_
      refine g_iadd (pc' := 224) dX10_readPart_223 rfl ?_
      refine g_iast (pc' := 225) dX10_readPart_224 rfl rfl (by omega) (by omega) ⟨by omega, by omega⟩ (fun M4 hM4 => ?_)
      have iM4 : IM M4 := IM.wr ic1 hM4 (by unfold okv; first | decide | omega)
      have fM4 : Fr (fun c => c = 97 ∨ (108 ≤ c ∧ c ≤ 111)) M M4 := Fr.wr fr1 hM4 (by first | decide | omega | (dsimp only; omega))
      have q97_12_M4 : (M4 97 12 = M 97 12) := (show M4 97 12 = M1 97 12 by rw [hM4]; exact mu_ne _ _ (by first | decide | omega)).trans q97_12
      have q97_19_M4 : (M4 97 19 = M 97 19) := (show M4 97 19 = M1 97 19 by rw [hM4]; exact mu_ne _ _ (by first | decide | omega)).trans q97_19
      have wM4_97_13 : M4 97 13 = M1 97 13 := by rw [hM4]; exact mu_ne _ _ (by first | decide | omega)
      have wM4_97_14 : M4 97 14 = M1 97 14 := by rw [hM4]; exact mu_ne _ _ (by first | decide | omega)
      have wM4_97_15 : M4 97 15 = M1 97 15 := by rw [hM4]; exact mu_ne _ _ (by first | decide | omega)
      have wM4_97_18 : M4 97 18 = M1 97 18 := by rw [hM4]; exact mu_ne _ _ (by first | decide | omega)
      have wM4_97_21 : M4 97 21 = M1 97 21 := by rw [hM4]; exact mu_ne _ _ (by first | decide | omega)
      have wM4_97_27 : M4 97 27 = M1 97 27 := by rw [hM4]; exact mu_ne _ _ (by first | decide | omega)
      have CM4_108 : M4 108 = M1 108 := by rw [hM4, mu_cell _ _ (by decide)]
      have CM4_109 : M4 109 = ms (M1 109) at_.toNat ((6 * sf) + gl) := by rw [hM4, mu_is]
      have CM4_110 : M4 110 = M1 110 := by rw [hM4, mu_cell _ _ (by decide)]
      have CM4_111 : M4 111 = M1 111 := by rw [hM4, mu_cell _ _ (by decide)]
      have tkM4 : TK M4 := TK.eq tk1 (show M4 97 12 = M1 97 12 by rw [hM4]; exact mu_ne _ _ (by first | decide | omega)) (show M4 97 13 = M1 97 13 by rw [hM4]; exact mu_ne _ _ (by first | decide | omega)) (show M4 97 14 = M1 97 14 by rw [hM4]; exact mu_ne _ _ (by first | decide | omega)) (show M4 97 15 = M1 97 15 by rw [hM4]; exact mu_ne _ _ (by first | decide | omega)) (show M4 97 16 = M1 97 16 by rw [hM4]; exact mu_ne _ _ (by first | decide | omega))
      have psM4 : PS M4 F0 3 := PS.mk_ (q := 1) (SI.nx si1 CM4_110 CM4_111 (by omega) (by omega) (by omega) (by omega)) (HI.arg (LF.hi lf1 (by omega)) (by rw [show at_ = M 97 21 by omega, LF.at_ lf1 (by omega)]; omega) (by omega) CM4_108 CM4_109 CM4_110 CM4_111 (by omega) (by omega)) (SQ.nx sq1 CM4_110 (by omega) (by omega)) (by omega)
      have loM4 : LO M M4 F0 := LO.tr lo1 (LO.ar CM4_108 CM4_109 (by omega))
      refine g_iconst (pc' := 226) dX10_readPart_225 rfl ?_
      refine g_ireturn dX10_readPart_226 ?_
      exact ⟨iM4, fM4, q97_12_M4, q97_19_M4, ⟨by omega, by omega⟩, psM4, loM4, tkM4, by omega, (mz_lt hbad (by omega) (by omega) (by omega))⟩
set_option maxHeartbeats 4000000 in
set_option maxRecDepth 100000 in
theorem j_X10_readPart_171 (X : Cx) (M : Mm) (hi : IM M) (F0 : Int) (hs0 : SI M F0) (hh0 : HI M F0 0) (t : Int) (ht01 : t = 0 ∨ t = 1) (hq0 : SQ M t) (htk : TK M) (hbad : M 97 18 = 0) (its : Int) (at_ : Int) (sf : Int) (M1 : Mm) (ic1 : IM M1) (fr1 : Fr (fun c => c = 97 ∨ (108 ≤ c ∧ c ≤ 111)) M M1) (q97_12 : (M1 97 12 = M 97 12)) (q97_19 : (M1 97 19 = M 97 19)) (ov : Int) (hov : (its = -1 ∧ ov = 0) ∨ ov = its) (si1 : SI M1 F0) (lf1 : LF M1 F0 (M 97 21) ov) (lo1 : LO M M1 F0) (sq1 : SQ M1 3) (tk1 : TK M1) (fa1 : M 97 13 ≤ M1 97 13) (fb1 : M1 97 18 = 0 → M 97 13 < M1 97 13 ∧ M1 97 21 = M 97 21 + 1) (hit : its = -1 ∨ (1 ≤ its ∧ its ≤ 4)) (hat : M1 97 18 = 0 → (at_ = M 97 21 ∧ 0 ≤ sf ∧ sf ≤ 3)) (hsf : (0 ≤ sf ∧ sf ≤ 1000) ∧ (-1 ≤ at_ ∧ at_ ≤ 400)) : G X 4 RX10 cX10_readPart 6 (some .int) (Qi (fun r M1 => IM M1 ∧ Fr (fun c => c = 97 ∨ (108 ≤ c ∧ c ≤ 111)) M M1 ∧ M1 97 12 = M 97 12 ∧ M1 97 19 = M 97 19 ∧ ((0 ≤ r ∧ r ≤ 4) ∧ PS M1 F0 r ∧ LO M M1 F0 ∧ TK M1 ∧ M 97 13 ≤ M1 97 13 ∧ mz (M1 97 13) (M1 97 18) r < mz (M 97 13) (M 97 18) t))) 171 [(1, vi its), (3, vi at_), (4, vi sf), (0, vr X 97)] [] M1 := by
  have p12 := hi.2.2.2.1
  have sa0 := hs0.ar
  have sa1 := si1.ar
  have tb1 := tk1.b
  have lt1 := tk1.lt
  refine g_iload_n (pc' := 172) 0 dX10_readPart_171 rfl rfl ?_
  refine g_iconst (pc' := 173) dX10_readPart_172 rfl ?_
  refine g_ic_eq (pc' := 176) (tgt := 196) ⟨by omega, by omega⟩ (by decide) dX10_readPart_173 rfl rfl (fun c1 => ?_) (fun c1 => ?_)
  · refine g_iconst (pc' := 197) dX10_readPart_196 rfl ?_
    refine g_istore (pc' := 199) (L' := [(5, vi 0), (1, vi its), (3, vi at_), (4, vi sf), (0, vr X 97)]) dX10_readPart_197 rfl (by decide) rfl ?_
    refine g_sub [1, 2, 3, 0, 4] rfl ?_
    exact j_X10_readPart_199 X M hi F0 hs0 hh0 t ht01 hq0 htk hbad its at_ sf 0 M1 ic1 fr1 q97_12 q97_19 ov (by omega) si1 lf1 lo1 sq1 tk1 (by omega) (by omega) (by omega) (by omega) (by omega) (by omega) (by omega)
  · refine g_iload_n (pc' := 177) 0 dX10_readPart_176 rfl rfl ?_
    refine g_iconst (pc' := 178) dX10_readPart_177 rfl ?_
    refine g_ic_eq (pc' := 181) (tgt := 196) ⟨by omega, by omega⟩ (by decide) dX10_readPart_178 rfl rfl (fun c2 => ?_) (fun c2 => ?_)
    · refine g_iconst (pc' := 197) dX10_readPart_196 rfl ?_
      refine g_istore (pc' := 199) (L' := [(5, vi 0), (1, vi its), (3, vi at_), (4, vi sf), (0, vr X 97)]) dX10_readPart_197 rfl (by decide) rfl ?_
      refine g_sub [1, 2, 3, 0, 4] rfl ?_
      exact j_X10_readPart_199 X M hi F0 hs0 hh0 t ht01 hq0 htk hbad its at_ sf 0 M1 ic1 fr1 q97_12 q97_19 ov (by omega) si1 lf1 lo1 sq1 tk1 (by omega) (by omega) (by omega) (by omega) (by omega) (by omega) (by omega)
    · refine g_aload_n (pc' := 182) 3 dX10_readPart_181 rfl rfl ?_
      refine g_getI (pc' := 185) dX10_readPart_182 rfl f_X10_154 rfl rfl (fun v3 ev3 rv3 => ?_)
      refine g_if_ne (pc' := 188) (tgt := 196) rv3 dX10_readPart_185 rfl rfl (fun c4 => ?_) (fun c4 => ?_)
      · refine g_iconst (pc' := 197) dX10_readPart_196 rfl ?_
        refine g_istore (pc' := 199) (L' := [(5, vi 0), (1, vi its), (3, vi at_), (4, vi sf), (0, vr X 97)]) dX10_readPart_197 rfl (by decide) rfl ?_
        refine g_sub [1, 2, 3, 0, 4] rfl ?_
        exact j_X10_readPart_199 X M hi F0 hs0 hh0 t ht01 hq0 htk hbad its at_ sf 0 M1 ic1 fr1 q97_12 q97_19 ov (by omega) si1 lf1 lo1 sq1 tk1 (by omega) (by omega) (by omega) (by omega) (by omega) (by omega) (by omega)
      · refine g_aload_n (pc' := 189) 3 dX10_readPart_188 rfl rfl ?_
        refine g_iconst (pc' := 190) dX10_readPart_189 rfl ?_
        refine g_callVi (pc' := 193) (As := [vi 5]) (b := 97) (S := []) dX10_readPart_190 rfl m_X10_245 w_X10_readNumber (c_X10_readNumber X M1 ic1 5 (by decide) tk1 (by omega)) rfl ⟨_, _, _, rfl, rfl, rfl⟩ (by decide) (by decide) rfl (Nat.le_of_ble_eq_true rfl) (fun z6 M7 q5 => ?_)
        obtain ⟨iM7, fM70, eM7_97_12, eM7_97_19, eM7_97_21, eM7_97_24, eM7_97_27, eM7_97_28, pM7⟩ := q5
        have fM7 : Fr (fun c => c = 97 ∨ (108 ≤ c ∧ c ≤ 111)) M M7 := Fr.tr fr1 fM70 fi_33
        have q97_12_M7 : (M7 97 12 = M 97 12) := eM7_97_12.trans q97_12
        have q97_19_M7 : (M7 97 19 = M 97 19) := eM7_97_19.trans q97_19
        have wM7_97_21 : M7 97 21 = M1 97 21 := eM7_97_21
        have wM7_97_27 : M7 97 27 = M1 97 27 := eM7_97_27
        have CM7_108 : M7 108 = M1 108 := fM70 108 (by decide)
        have CM7_109 : M7 109 = M1 109 := fM70 109 (by decide)
        have CM7_110 : M7 110 = M1 110 := fM70 110 (by decide)
        have CM7_111 : M7 111 = M1 111 := fM70 111 (by decide)
        obtain ⟨aM7p, bM7p, cM7p, dM7p, kM7p⟩ := pM7
        have tkM7 : TK M7 := kM7p
        clear kM7p
        have tbM7 := tkM7.b
        have siM7 : SI M7 F0 := SI.nx si1 CM7_110 CM7_111 (by omega) (by omega) (by omega) (by omega)
        have sqM7 : SQ M7 3 := SQ.nx sq1 CM7_110 (by omega) (by omega)
        have lfM7 : LF M7 F0 (M 97 21) ov := LF.nx lf1 CM7_108 CM7_109 CM7_110 CM7_111 (by omega) (by omega) (by omega)
        have loM7 : LO M M7 F0 := LO.tr lo1 (LO.eq CM7_108 CM7_109)
        refine g_goto (tgt := 197) dX10_readPart_193 rfl ?_
        refine g_istore (pc' := 199) (L' := [(5, vi z6), (1, vi its), (3, vi at_), (4, vi sf), (0, vr X 97)]) dX10_readPart_197 rfl (by decide) rfl ?_
        refine g_sub [1, 2, 3, 0, 4] rfl ?_
        exact j_X10_readPart_199 X M hi F0 hs0 hh0 t ht01 hq0 htk hbad its at_ sf z6 M7 iM7 fM7 q97_12_M7 q97_19_M7 ov (by omega) siM7 lfM7 loM7 sqM7 tkM7 (by omega) (by omega) (by omega) (by omega) (by omega) (by omega) (by omega)
set_option maxHeartbeats 4000000 in
set_option maxRecDepth 100000 in
theorem j_X10_readPart_141 (X : Cx) (M : Mm) (hi : IM M) (F0 : Int) (hs0 : SI M F0) (hh0 : HI M F0 0) (t : Int) (ht01 : t = 0 ∨ t = 1) (hq0 : SQ M t) (htk : TK M) (hbad : M 97 18 = 0) (its : Int) (M1 : Mm) (ic1 : IM M1) (fr1 : Fr (fun c => c = 97 ∨ (108 ≤ c ∧ c ≤ 111)) M M1) (q97_12 : (M1 97 12 = M 97 12)) (q97_19 : (M1 97 19 = M 97 19)) (ov : Int) (hov : (its = -1 ∧ ov = 0) ∨ ov = its) (si1 : SI M1 F0) (lf1 : LF M1 F0 (M 97 21) ov) (lo1 : LO M M1 F0) (sq1 : SQ M1 3) (tk1 : TK M1) (fa1 : M 97 13 ≤ M1 97 13) (fb1 : M1 97 18 = 0 → M 97 13 < M1 97 13 ∧ M1 97 21 = M 97 21 + 1) (hit : its = -1 ∨ (1 ≤ its ∧ its ≤ 4)) : G X 4 RX10 cX10_readPart 6 (some .int) (Qi (fun r M1 => IM M1 ∧ Fr (fun c => c = 97 ∨ (108 ≤ c ∧ c ≤ 111)) M M1 ∧ M1 97 12 = M 97 12 ∧ M1 97 19 = M 97 19 ∧ ((0 ≤ r ∧ r ≤ 4) ∧ PS M1 F0 r ∧ LO M M1 F0 ∧ TK M1 ∧ M 97 13 ≤ M1 97 13 ∧ mz (M1 97 13) (M1 97 18) r < mz (M 97 13) (M 97 18) t))) 141 [(1, vi its), (0, vr X 97)] [] M1 := by
  have p12 := hi.2.2.2.1
  have sa0 := hs0.ar
  have sa1 := si1.ar
  have tb1 := tk1.b
  have lt1 := tk1.lt
  refine g_aload_n (pc' := 142) 1 dX10_readPart_141 rfl rfl ?_
  refine g_getI (pc' := 145) dX10_readPart_142 rfl f_X10_191 rfl rfl (fun v1 ev1 rv1 => ?_)
  refine g_iconst (pc' := 146) dX10_readPart_145 rfl ?_
  refine g_isub (pc' := 147) dX10_readPart_146 rfl ?_
  obtain ⟨x2, ex2⟩ : ∃ z : Int, z = v1 - 1 := ⟨_, rfl⟩
  rw [← ex2]
  refine g_istore_n (pc' := 148) (i := 3) (L' := [(3, vi x2), (1, vi its), (0, vr X 97)]) dX10_readPart_147 rfl rfl (by decide) rfl ?_
  refine g_iload_n (pc' := 149) 1 dX10_readPart_148 rfl rfl ?_
  refine g_iconst (pc' := 150) dX10_readPart_149 rfl ?_
  refine g_ic_ne (pc' := 153) (tgt := 168) ⟨by omega, by omega⟩ (by decide) dX10_readPart_150 rfl rfl (fun c3 => ?_) (fun c3 => ?_)
  · refine g_iconst (pc' := 169) dX10_readPart_168 rfl ?_
    refine g_istore (pc' := 171) (L' := [(4, vi 0), (3, vi x2), (1, vi its), (0, vr X 97)]) dX10_readPart_169 rfl (by decide) rfl ?_
    refine g_sub [2, 1, 0, 3] rfl ?_
    exact j_X10_readPart_171 X M hi F0 hs0 hh0 t ht01 hq0 htk hbad its x2 0 M1 ic1 fr1 q97_12 q97_19 ov (by omega) si1 lf1 lo1 sq1 tk1 (by omega) (by omega) (by omega) (by omega) (by omega)
  · refine g_aload_n (pc' := 154) 2 dX10_readPart_153 rfl rfl ?_
    refine g_getI (pc' := 157) dX10_readPart_154 rfl f_X10_154 rfl rfl (fun v4 ev4 rv4 => ?_)
    refine g_if_ne (pc' := 160) (tgt := 168) rv4 dX10_readPart_157 rfl rfl (fun c5 => ?_) (fun c5 => ?_)
    · refine g_iconst (pc' := 169) dX10_readPart_168 rfl ?_
      refine g_istore (pc' := 171) (L' := [(4, vi 0), (3, vi x2), (1, vi its), (0, vr X 97)]) dX10_readPart_169 rfl (by decide) rfl ?_
      refine g_sub [2, 1, 0, 3] rfl ?_
      exact j_X10_readPart_171 X M hi F0 hs0 hh0 t ht01 hq0 htk hbad its x2 0 M1 ic1 fr1 q97_12 q97_19 ov (by omega) si1 lf1 lo1 sq1 tk1 (by omega) (by omega) (by omega) (by omega) (by omega)
    · refine g_aload_n (pc' := 161) 2 dX10_readPart_160 rfl rfl ?_
      refine g_iconst (pc' := 162) dX10_readPart_161 rfl ?_
      refine g_callVi (pc' := 165) (As := [vi 3]) (b := 97) (S := []) dX10_readPart_162 rfl m_X10_245 w_X10_readNumber (c_X10_readNumber X M1 ic1 3 (by decide) tk1 (by omega)) rfl ⟨_, _, _, rfl, rfl, rfl⟩ (by decide) (by decide) rfl (Nat.le_of_ble_eq_true rfl) (fun z7 M8 q6 => ?_)
      obtain ⟨iM8, fM80, eM8_97_12, eM8_97_19, eM8_97_21, eM8_97_24, eM8_97_27, eM8_97_28, pM8⟩ := q6
      have fM8 : Fr (fun c => c = 97 ∨ (108 ≤ c ∧ c ≤ 111)) M M8 := Fr.tr fr1 fM80 fi_33
      have q97_12_M8 : (M8 97 12 = M 97 12) := eM8_97_12.trans q97_12
      have q97_19_M8 : (M8 97 19 = M 97 19) := eM8_97_19.trans q97_19
      have wM8_97_21 : M8 97 21 = M1 97 21 := eM8_97_21
      have wM8_97_27 : M8 97 27 = M1 97 27 := eM8_97_27
      have CM8_108 : M8 108 = M1 108 := fM80 108 (by decide)
      have CM8_109 : M8 109 = M1 109 := fM80 109 (by decide)
      have CM8_110 : M8 110 = M1 110 := fM80 110 (by decide)
      have CM8_111 : M8 111 = M1 111 := fM80 111 (by decide)
      obtain ⟨aM8p, bM8p, cM8p, dM8p, kM8p⟩ := pM8
      have tkM8 : TK M8 := kM8p
      clear kM8p
      have tbM8 := tkM8.b
      have siM8 : SI M8 F0 := SI.nx si1 CM8_110 CM8_111 (by omega) (by omega) (by omega) (by omega)
      have sqM8 : SQ M8 3 := SQ.nx sq1 CM8_110 (by omega) (by omega)
      have lfM8 : LF M8 F0 (M 97 21) ov := LF.nx lf1 CM8_108 CM8_109 CM8_110 CM8_111 (by omega) (by omega) (by omega)
      have loM8 : LO M M8 F0 := LO.tr lo1 (LO.eq CM8_108 CM8_109)
      refine g_goto (tgt := 169) dX10_readPart_165 rfl ?_
      refine g_istore (pc' := 171) (L' := [(4, vi z7), (3, vi x2), (1, vi its), (0, vr X 97)]) dX10_readPart_169 rfl (by decide) rfl ?_
      refine g_sub [2, 1, 0, 3] rfl ?_
      exact j_X10_readPart_171 X M hi F0 hs0 hh0 t ht01 hq0 htk hbad its x2 z7 M8 iM8 fM8 q97_12_M8 q97_19_M8 ov (by omega) siM8 lfM8 loM8 sqM8 tkM8 (by omega) (by omega) (by omega) (by omega) (by omega)
set_option maxHeartbeats 4000000 in
set_option maxRecDepth 100000 in
theorem j_X10_readPart_100 (X : Cx) (M : Mm) (hi : IM M) (F0 : Int) (hs0 : SI M F0) (hh0 : HI M F0 0) (t : Int) (ht01 : t = 0 ∨ t = 1) (hq0 : SQ M t) (htk : TK M) (hbad : M 97 18 = 0) (its : Int) (dg : Int) (hit : its = -1 ∨ (1 ≤ its ∧ its ≤ 4)) (his : its ≠ -1 → M 97 15 = 1) (hdg : dg = 0 ∨ (dg = 1 ∧ M 97 15 = 2 ∧ 0 ≤ M 97 16 ∧ M 97 16 ≤ 1000)) : G X 4 RX10 cX10_readPart 6 (some .int) (Qi (fun r M1 => IM M1 ∧ Fr (fun c => c = 97 ∨ (108 ≤ c ∧ c ≤ 111)) M M1 ∧ M1 97 12 = M 97 12 ∧ M1 97 19 = M 97 19 ∧ ((0 ≤ r ∧ r ≤ 4) ∧ PS M1 F0 r ∧ LO M M1 F0 ∧ TK M1 ∧ M 97 13 ≤ M1 97 13 ∧ mz (M1 97 13) (M1 97 18) r < mz (M 97 13) (M 97 18) t))) 100 [(1, vi its), (2, vi dg), (0, vr X 97)] [] M := by
  have p12 := hi.2.2.2.1
  have sa0 := hs0.ar
  have tb0 := htk.b
  have lt0 := htk.lt
  refine g_aload_n (pc' := 101) 2 dX10_readPart_100 rfl rfl ?_
  refine g_iload_n (pc' := 102) 0 dX10_readPart_101 rfl rfl ?_
  refine g_iconst (pc' := 103) dX10_readPart_102 rfl ?_
  refine g_ic_ne (pc' := 106) (tgt := 110) ⟨by omega, by omega⟩ (by decide) dX10_readPart_103 rfl rfl (fun c1 => ?_) (fun c1 => ?_)
  · refine g_iconst (pc' := 111) dX10_readPart_110 rfl ?_
    refine g_goto (tgt := 115) dX10_readPart_111 rfl ?_
    refine g_iload_n (pc' := 116) 0 dX10_readPart_115 rfl rfl ?_
    refine g_iconst (pc' := 117) dX10_readPart_116 rfl ?_
    refine g_ic_ne (pc' := 120) (tgt := 124) ⟨by omega, by omega⟩ (by decide) dX10_readPart_117 rfl rfl (fun c2 => ?_) (fun c2 => ?_)
    · refine g_iload_n (pc' := 125) 0 dX10_readPart_124 rfl rfl ?_
      refine g_iload_n (pc' := 126) 1 dX10_readPart_125 rfl rfl ?_
      refine g_if_eq (pc' := 129) (tgt := 137) ⟨by omega, by omega⟩ dX10_readPart_126 rfl rfl (fun c3 => ?_) (fun c3 => ?_)
      · refine g_iconst (pc' := 138) dX10_readPart_137 rfl ?_
        refine g_callVv (pc' := 141) (As := [vi 1, vi its, vi 0]) (b := 97) (S := []) dX10_readPart_138 rfl m_X10_241 w_X10_leaf (c_X10_leaf X M hi 1 (by decide) its ⟨by omega, by omega⟩ 0 (by decide) F0 hs0 hh0 htk (by omega) (by omega) (by omega)) rfl ⟨_, _, _, rfl, rfl, rfl⟩ (by decide) (by decide) rfl (Nat.le_of_ble_eq_true rfl) (fun M5 q4 => ?_)
        obtain ⟨iM5, fM50, eM5_97_12, eM5_97_19, eM5_97_27, eM5_97_28, pM5⟩ := q4
        have fM5 : Fr (fun c => c = 97 ∨ (108 ≤ c ∧ c ≤ 111)) M M5 := Fr.tr Fr.rf fM50 fi_34
        have q97_12_M5 : (M5 97 12 = M 97 12) := eM5_97_12
        have q97_19_M5 : (M5 97 19 = M 97 19) := eM5_97_19
        have wM5_97_27 : M5 97 27 = M 97 27 := eM5_97_27
        have CM5_110 : M5 110 = M 110 := fM50 110 (by decide)
        have CM5_111 : M5 111 = M 111 := fM50 111 (by decide)
        obtain ⟨siM5, lfM5, loM5, tkM5, faM5, fbM5⟩ := pM5
        have tbM5 := tkM5.b
        refine g_sub [0, 2] rfl ?_
        exact j_X10_readPart_141 X M hi F0 hs0 hh0 t ht01 hq0 htk hbad its M5 iM5 fM5 q97_12_M5 q97_19_M5 its (by omega) siM5 lfM5 loM5 (SQ.nx hq0 (fM50 110 (by decide)) (by omega) (by omega)) tkM5 (by omega) (by omega) (by omega)
      · refine g_aload_n (pc' := 130) 2 dX10_readPart_129 rfl rfl ?_
        refine g_getL (pc' := 133) dX10_readPart_130 rfl f_X10_164 rfl rfl (fun v6 ev6 rv6 => ?_)
        refine g_l2i (pc' := 134) dX10_readPart_133 rfl ?_
        refine g_goto (tgt := 138) dX10_readPart_134 rfl ?_
        refine g_callVv (pc' := 141) (As := [vi 1, vi its, vi v6]) (b := 97) (S := []) dX10_readPart_138 rfl m_X10_241 w_X10_leaf (c_X10_leaf X M hi 1 (by decide) its ⟨by omega, by omega⟩ v6 ⟨by omega, by omega⟩ F0 hs0 hh0 htk (by omega) (by omega) (by omega)) rfl ⟨_, _, _, rfl, rfl, rfl⟩ (by decide) (by decide) rfl (Nat.le_of_ble_eq_true rfl) (fun M8 q7 => ?_)
        obtain ⟨iM8, fM80, eM8_97_12, eM8_97_19, eM8_97_27, eM8_97_28, pM8⟩ := q7
        have fM8 : Fr (fun c => c = 97 ∨ (108 ≤ c ∧ c ≤ 111)) M M8 := Fr.tr Fr.rf fM80 fi_34
        have q97_12_M8 : (M8 97 12 = M 97 12) := eM8_97_12
        have q97_19_M8 : (M8 97 19 = M 97 19) := eM8_97_19
        have wM8_97_27 : M8 97 27 = M 97 27 := eM8_97_27
        have CM8_110 : M8 110 = M 110 := fM80 110 (by decide)
        have CM8_111 : M8 111 = M 111 := fM80 111 (by decide)
        obtain ⟨siM8, lfM8, loM8, tkM8, faM8, fbM8⟩ := pM8
        have tbM8 := tkM8.b
        refine g_sub [0, 2] rfl ?_
        exact j_X10_readPart_141 X M hi F0 hs0 hh0 t ht01 hq0 htk hbad its M8 iM8 fM8 q97_12_M8 q97_19_M8 its (by omega) siM8 lfM8 loM8 (SQ.nx hq0 (fM80 110 (by decide)) (by omega) (by omega)) tkM8 (by omega) (by omega) (by omega)
    · refine g_iconst (pc' := 121) dX10_readPart_120 rfl ?_
      refine g_goto (tgt := 125) dX10_readPart_121 rfl ?_
      refine g_iload_n (pc' := 126) 1 dX10_readPart_125 rfl rfl ?_
      refine g_if_eq (pc' := 129) (tgt := 137) ⟨by omega, by omega⟩ dX10_readPart_126 rfl rfl (fun c9 => ?_) (fun c9 => ?_)
      · refine g_iconst (pc' := 138) dX10_readPart_137 rfl ?_
        refine g_callVv (pc' := 141) (As := [vi 1, vi 0, vi 0]) (b := 97) (S := []) dX10_readPart_138 rfl m_X10_241 w_X10_leaf (c_X10_leaf X M hi 1 (by decide) 0 (by decide) 0 (by decide) F0 hs0 hh0 htk (by omega) (by omega) (by omega)) rfl ⟨_, _, _, rfl, rfl, rfl⟩ (by decide) (by decide) rfl (Nat.le_of_ble_eq_true rfl) (fun M11 q10 => ?_)
        obtain ⟨iM11, fM110, eM11_97_12, eM11_97_19, eM11_97_27, eM11_97_28, pM11⟩ := q10
        have fM11 : Fr (fun c => c = 97 ∨ (108 ≤ c ∧ c ≤ 111)) M M11 := Fr.tr Fr.rf fM110 fi_34
        have q97_12_M11 : (M11 97 12 = M 97 12) := eM11_97_12
        have q97_19_M11 : (M11 97 19 = M 97 19) := eM11_97_19
        have wM11_97_27 : M11 97 27 = M 97 27 := eM11_97_27
        have CM11_110 : M11 110 = M 110 := fM110 110 (by decide)
        have CM11_111 : M11 111 = M 111 := fM110 111 (by decide)
        obtain ⟨siM11, lfM11, loM11, tkM11, faM11, fbM11⟩ := pM11
        have tbM11 := tkM11.b
        refine g_sub [0, 2] rfl ?_
        exact j_X10_readPart_141 X M hi F0 hs0 hh0 t ht01 hq0 htk hbad its M11 iM11 fM11 q97_12_M11 q97_19_M11 0 (by omega) siM11 lfM11 loM11 (SQ.nx hq0 (fM110 110 (by decide)) (by omega) (by omega)) tkM11 (by omega) (by omega) (by omega)
      · refine g_aload_n (pc' := 130) 2 dX10_readPart_129 rfl rfl ?_
        refine g_getL (pc' := 133) dX10_readPart_130 rfl f_X10_164 rfl rfl (fun v12 ev12 rv12 => ?_)
        refine g_l2i (pc' := 134) dX10_readPart_133 rfl ?_
        refine g_goto (tgt := 138) dX10_readPart_134 rfl ?_
        refine g_callVv (pc' := 141) (As := [vi 1, vi 0, vi v12]) (b := 97) (S := []) dX10_readPart_138 rfl m_X10_241 w_X10_leaf (c_X10_leaf X M hi 1 (by decide) 0 (by decide) v12 ⟨by omega, by omega⟩ F0 hs0 hh0 htk (by omega) (by omega) (by omega)) rfl ⟨_, _, _, rfl, rfl, rfl⟩ (by decide) (by decide) rfl (Nat.le_of_ble_eq_true rfl) (fun M14 q13 => ?_)
        obtain ⟨iM14, fM140, eM14_97_12, eM14_97_19, eM14_97_27, eM14_97_28, pM14⟩ := q13
        have fM14 : Fr (fun c => c = 97 ∨ (108 ≤ c ∧ c ≤ 111)) M M14 := Fr.tr Fr.rf fM140 fi_34
        have q97_12_M14 : (M14 97 12 = M 97 12) := eM14_97_12
        have q97_19_M14 : (M14 97 19 = M 97 19) := eM14_97_19
        have wM14_97_27 : M14 97 27 = M 97 27 := eM14_97_27
        have CM14_110 : M14 110 = M 110 := fM140 110 (by decide)
        have CM14_111 : M14 111 = M 111 := fM140 111 (by decide)
        obtain ⟨siM14, lfM14, loM14, tkM14, faM14, fbM14⟩ := pM14
        have tbM14 := tkM14.b
        refine g_sub [0, 2] rfl ?_
        exact j_X10_readPart_141 X M hi F0 hs0 hh0 t ht01 hq0 htk hbad its M14 iM14 fM14 q97_12_M14 q97_19_M14 0 (by omega) siM14 lfM14 loM14 (SQ.nx hq0 (fM140 110 (by decide)) (by omega) (by omega)) tkM14 (by omega) (by omega) (by omega)
  · refine g_iload_n (pc' := 107) 1 dX10_readPart_106 rfl rfl ?_
    refine g_if_eq (pc' := 110) (tgt := 114) ⟨by omega, by omega⟩ dX10_readPart_107 rfl rfl (fun c15 => ?_) (fun c15 => ?_)
    · refine g_iconst (pc' := 115) dX10_readPart_114 rfl ?_
      refine g_iload_n (pc' := 116) 0 dX10_readPart_115 rfl rfl ?_
      refine g_iconst (pc' := 117) dX10_readPart_116 rfl ?_
      refine g_ic_ne (pc' := 120) (tgt := 124) ⟨by omega, by omega⟩ (by decide) dX10_readPart_117 rfl rfl (fun c16 => ?_) (fun c16 => ?_)
      · refine g_iload_n (pc' := 125) 0 dX10_readPart_124 rfl rfl ?_
        refine g_iload_n (pc' := 126) 1 dX10_readPart_125 rfl rfl ?_
        refine g_if_eq (pc' := 129) (tgt := 137) ⟨by omega, by omega⟩ dX10_readPart_126 rfl rfl (fun c17 => ?_) (fun c17 => ?_)
        · refine g_iconst (pc' := 138) dX10_readPart_137 rfl ?_
          refine g_callVv (pc' := 141) (As := [vi 0, vi its, vi 0]) (b := 97) (S := []) dX10_readPart_138 rfl m_X10_241 w_X10_leaf (c_X10_leaf X M hi 0 (by decide) its ⟨by omega, by omega⟩ 0 (by decide) F0 hs0 hh0 htk (by omega) (by omega) (by omega)) rfl ⟨_, _, _, rfl, rfl, rfl⟩ (by decide) (by decide) rfl (Nat.le_of_ble_eq_true rfl) (fun M19 q18 => ?_)
          obtain ⟨iM19, fM190, eM19_97_12, eM19_97_19, eM19_97_27, eM19_97_28, pM19⟩ := q18
          have fM19 : Fr (fun c => c = 97 ∨ (108 ≤ c ∧ c ≤ 111)) M M19 := Fr.tr Fr.rf fM190 fi_34
          have q97_12_M19 : (M19 97 12 = M 97 12) := eM19_97_12
          have q97_19_M19 : (M19 97 19 = M 97 19) := eM19_97_19
          have wM19_97_27 : M19 97 27 = M 97 27 := eM19_97_27
          have CM19_110 : M19 110 = M 110 := fM190 110 (by decide)
          have CM19_111 : M19 111 = M 111 := fM190 111 (by decide)
          obtain ⟨siM19, lfM19, loM19, tkM19, faM19, fbM19⟩ := pM19
          have tbM19 := tkM19.b
          refine g_sub [0, 2] rfl ?_
          exact j_X10_readPart_141 X M hi F0 hs0 hh0 t ht01 hq0 htk hbad its M19 iM19 fM19 q97_12_M19 q97_19_M19 its (by omega) siM19 lfM19 loM19 (SQ.nx hq0 (fM190 110 (by decide)) (by omega) (by omega)) tkM19 (by omega) (by omega) (by omega)
        · refine g_aload_n (pc' := 130) 2 dX10_readPart_129 rfl rfl ?_
          refine g_getL (pc' := 133) dX10_readPart_130 rfl f_X10_164 rfl rfl (fun v20 ev20 rv20 => ?_)
          refine g_l2i (pc' := 134) dX10_readPart_133 rfl ?_
          refine g_goto (tgt := 138) dX10_readPart_134 rfl ?_
          refine g_callVv (pc' := 141) (As := [vi 0, vi its, vi v20]) (b := 97) (S := []) dX10_readPart_138 rfl m_X10_241 w_X10_leaf (c_X10_leaf X M hi 0 (by decide) its ⟨by omega, by omega⟩ v20 ⟨by omega, by omega⟩ F0 hs0 hh0 htk (by omega) (by omega) (by omega)) rfl ⟨_, _, _, rfl, rfl, rfl⟩ (by decide) (by decide) rfl (Nat.le_of_ble_eq_true rfl) (fun M22 q21 => ?_)
          obtain ⟨iM22, fM220, eM22_97_12, eM22_97_19, eM22_97_27, eM22_97_28, pM22⟩ := q21
          have fM22 : Fr (fun c => c = 97 ∨ (108 ≤ c ∧ c ≤ 111)) M M22 := Fr.tr Fr.rf fM220 fi_34
          have q97_12_M22 : (M22 97 12 = M 97 12) := eM22_97_12
          have q97_19_M22 : (M22 97 19 = M 97 19) := eM22_97_19
          have wM22_97_27 : M22 97 27 = M 97 27 := eM22_97_27
          have CM22_110 : M22 110 = M 110 := fM220 110 (by decide)
          have CM22_111 : M22 111 = M 111 := fM220 111 (by decide)
          obtain ⟨siM22, lfM22, loM22, tkM22, faM22, fbM22⟩ := pM22
          have tbM22 := tkM22.b
          refine g_sub [0, 2] rfl ?_
          exact j_X10_readPart_141 X M hi F0 hs0 hh0 t ht01 hq0 htk hbad its M22 iM22 fM22 q97_12_M22 q97_19_M22 its (by omega) siM22 lfM22 loM22 (SQ.nx hq0 (fM220 110 (by decide)) (by omega) (by omega)) tkM22 (by omega) (by omega) (by omega)
      · refine g_iconst (pc' := 121) dX10_readPart_120 rfl ?_
        refine g_goto (tgt := 125) dX10_readPart_121 rfl ?_
        refine g_iload_n (pc' := 126) 1 dX10_readPart_125 rfl rfl ?_
        refine g_if_eq (pc' := 129) (tgt := 137) ⟨by omega, by omega⟩ dX10_readPart_126 rfl rfl (fun c23 => ?_) (fun c23 => ?_)
        · refine g_iconst (pc' := 138) dX10_readPart_137 rfl ?_
          refine g_callVv (pc' := 141) (As := [vi 0, vi 0, vi 0]) (b := 97) (S := []) dX10_readPart_138 rfl m_X10_241 w_X10_leaf (c_X10_leaf X M hi 0 (by decide) 0 (by decide) 0 (by decide) F0 hs0 hh0 htk (by omega) (by omega) (by omega)) rfl ⟨_, _, _, rfl, rfl, rfl⟩ (by decide) (by decide) rfl (Nat.le_of_ble_eq_true rfl) (fun M25 q24 => ?_)
          obtain ⟨iM25, fM250, eM25_97_12, eM25_97_19, eM25_97_27, eM25_97_28, pM25⟩ := q24
          have fM25 : Fr (fun c => c = 97 ∨ (108 ≤ c ∧ c ≤ 111)) M M25 := Fr.tr Fr.rf fM250 fi_34
          have q97_12_M25 : (M25 97 12 = M 97 12) := eM25_97_12
          have q97_19_M25 : (M25 97 19 = M 97 19) := eM25_97_19
          have wM25_97_27 : M25 97 27 = M 97 27 := eM25_97_27
          have CM25_110 : M25 110 = M 110 := fM250 110 (by decide)
          have CM25_111 : M25 111 = M 111 := fM250 111 (by decide)
          obtain ⟨siM25, lfM25, loM25, tkM25, faM25, fbM25⟩ := pM25
          have tbM25 := tkM25.b
          refine g_sub [0, 2] rfl ?_
          exact j_X10_readPart_141 X M hi F0 hs0 hh0 t ht01 hq0 htk hbad its M25 iM25 fM25 q97_12_M25 q97_19_M25 0 (by omega) siM25 lfM25 loM25 (SQ.nx hq0 (fM250 110 (by decide)) (by omega) (by omega)) tkM25 (by omega) (by omega) (by omega)
        · refine g_aload_n (pc' := 130) 2 dX10_readPart_129 rfl rfl ?_
          refine g_getL (pc' := 133) dX10_readPart_130 rfl f_X10_164 rfl rfl (fun v26 ev26 rv26 => ?_)
          refine g_l2i (pc' := 134) dX10_readPart_133 rfl ?_
          refine g_goto (tgt := 138) dX10_readPart_134 rfl ?_
          refine g_callVv (pc' := 141) (As := [vi 0, vi 0, vi v26]) (b := 97) (S := []) dX10_readPart_138 rfl m_X10_241 w_X10_leaf (c_X10_leaf X M hi 0 (by decide) 0 (by decide) v26 ⟨by omega, by omega⟩ F0 hs0 hh0 htk (by omega) (by omega) (by omega)) rfl ⟨_, _, _, rfl, rfl, rfl⟩ (by decide) (by decide) rfl (Nat.le_of_ble_eq_true rfl) (fun M28 q27 => ?_)
          obtain ⟨iM28, fM280, eM28_97_12, eM28_97_19, eM28_97_27, eM28_97_28, pM28⟩ := q27
          have fM28 : Fr (fun c => c = 97 ∨ (108 ≤ c ∧ c ≤ 111)) M M28 := Fr.tr Fr.rf fM280 fi_34
          have q97_12_M28 : (M28 97 12 = M 97 12) := eM28_97_12
          have q97_19_M28 : (M28 97 19 = M 97 19) := eM28_97_19
          have wM28_97_27 : M28 97 27 = M 97 27 := eM28_97_27
          have CM28_110 : M28 110 = M 110 := fM280 110 (by decide)
          have CM28_111 : M28 111 = M 111 := fM280 111 (by decide)
          obtain ⟨siM28, lfM28, loM28, tkM28, faM28, fbM28⟩ := pM28
          have tbM28 := tkM28.b
          refine g_sub [0, 2] rfl ?_
          exact j_X10_readPart_141 X M hi F0 hs0 hh0 t ht01 hq0 htk hbad its M28 iM28 fM28 q97_12_M28 q97_19_M28 0 (by omega) siM28 lfM28 loM28 (SQ.nx hq0 (fM280 110 (by decide)) (by omega) (by omega)) tkM28 (by omega) (by omega) (by omega)
    · refine g_iconst (pc' := 111) dX10_readPart_110 rfl ?_
      refine g_goto (tgt := 115) dX10_readPart_111 rfl ?_
      refine g_iload_n (pc' := 116) 0 dX10_readPart_115 rfl rfl ?_
      refine g_iconst (pc' := 117) dX10_readPart_116 rfl ?_
      refine g_ic_ne (pc' := 120) (tgt := 124) ⟨by omega, by omega⟩ (by decide) dX10_readPart_117 rfl rfl (fun c29 => ?_) (fun c29 => ?_)
      · refine g_iload_n (pc' := 125) 0 dX10_readPart_124 rfl rfl ?_
        refine g_iload_n (pc' := 126) 1 dX10_readPart_125 rfl rfl ?_
        refine g_if_eq (pc' := 129) (tgt := 137) ⟨by omega, by omega⟩ dX10_readPart_126 rfl rfl (fun c30 => ?_) (fun c30 => ?_)
        · refine g_iconst (pc' := 138) dX10_readPart_137 rfl ?_
          refine g_callVv (pc' := 141) (As := [vi 1, vi its, vi 0]) (b := 97) (S := []) dX10_readPart_138 rfl m_X10_241 w_X10_leaf (c_X10_leaf X M hi 1 (by decide) its ⟨by omega, by omega⟩ 0 (by decide) F0 hs0 hh0 htk (by omega) (by omega) (by omega)) rfl ⟨_, _, _, rfl, rfl, rfl⟩ (by decide) (by decide) rfl (Nat.le_of_ble_eq_true rfl) (fun M32 q31 => ?_)
          obtain ⟨iM32, fM320, eM32_97_12, eM32_97_19, eM32_97_27, eM32_97_28, pM32⟩ := q31
          have fM32 : Fr (fun c => c = 97 ∨ (108 ≤ c ∧ c ≤ 111)) M M32 := Fr.tr Fr.rf fM320 fi_34
          have q97_12_M32 : (M32 97 12 = M 97 12) := eM32_97_12
          have q97_19_M32 : (M32 97 19 = M 97 19) := eM32_97_19
          have wM32_97_27 : M32 97 27 = M 97 27 := eM32_97_27
          have CM32_110 : M32 110 = M 110 := fM320 110 (by decide)
          have CM32_111 : M32 111 = M 111 := fM320 111 (by decide)
          obtain ⟨siM32, lfM32, loM32, tkM32, faM32, fbM32⟩ := pM32
          have tbM32 := tkM32.b
          refine g_sub [0, 2] rfl ?_
          exact j_X10_readPart_141 X M hi F0 hs0 hh0 t ht01 hq0 htk hbad its M32 iM32 fM32 q97_12_M32 q97_19_M32 its (by omega) siM32 lfM32 loM32 (SQ.nx hq0 (fM320 110 (by decide)) (by omega) (by omega)) tkM32 (by omega) (by omega) (by omega)
        · refine g_aload_n (pc' := 130) 2 dX10_readPart_129 rfl rfl ?_
          refine g_getL (pc' := 133) dX10_readPart_130 rfl f_X10_164 rfl rfl (fun v33 ev33 rv33 => ?_)
          refine g_l2i (pc' := 134) dX10_readPart_133 rfl ?_
          refine g_goto (tgt := 138) dX10_readPart_134 rfl ?_
          refine g_callVv (pc' := 141) (As := [vi 1, vi its, vi v33]) (b := 97) (S := []) dX10_readPart_138 rfl m_X10_241 w_X10_leaf (c_X10_leaf X M hi 1 (by decide) its ⟨by omega, by omega⟩ v33 ⟨by omega, by omega⟩ F0 hs0 hh0 htk (by omega) (by omega) (by omega)) rfl ⟨_, _, _, rfl, rfl, rfl⟩ (by decide) (by decide) rfl (Nat.le_of_ble_eq_true rfl) (fun M35 q34 => ?_)
          obtain ⟨iM35, fM350, eM35_97_12, eM35_97_19, eM35_97_27, eM35_97_28, pM35⟩ := q34
          have fM35 : Fr (fun c => c = 97 ∨ (108 ≤ c ∧ c ≤ 111)) M M35 := Fr.tr Fr.rf fM350 fi_34
          have q97_12_M35 : (M35 97 12 = M 97 12) := eM35_97_12
          have q97_19_M35 : (M35 97 19 = M 97 19) := eM35_97_19
          have wM35_97_27 : M35 97 27 = M 97 27 := eM35_97_27
          have CM35_110 : M35 110 = M 110 := fM350 110 (by decide)
          have CM35_111 : M35 111 = M 111 := fM350 111 (by decide)
          obtain ⟨siM35, lfM35, loM35, tkM35, faM35, fbM35⟩ := pM35
          have tbM35 := tkM35.b
          refine g_sub [0, 2] rfl ?_
          exact j_X10_readPart_141 X M hi F0 hs0 hh0 t ht01 hq0 htk hbad its M35 iM35 fM35 q97_12_M35 q97_19_M35 its (by omega) siM35 lfM35 loM35 (SQ.nx hq0 (fM350 110 (by decide)) (by omega) (by omega)) tkM35 (by omega) (by omega) (by omega)
      · refine g_iconst (pc' := 121) dX10_readPart_120 rfl ?_
        refine g_goto (tgt := 125) dX10_readPart_121 rfl ?_
        refine g_iload_n (pc' := 126) 1 dX10_readPart_125 rfl rfl ?_
        refine g_if_eq (pc' := 129) (tgt := 137) ⟨by omega, by omega⟩ dX10_readPart_126 rfl rfl (fun c36 => ?_) (fun c36 => ?_)
        · refine g_iconst (pc' := 138) dX10_readPart_137 rfl ?_
          refine g_callVv (pc' := 141) (As := [vi 1, vi 0, vi 0]) (b := 97) (S := []) dX10_readPart_138 rfl m_X10_241 w_X10_leaf (c_X10_leaf X M hi 1 (by decide) 0 (by decide) 0 (by decide) F0 hs0 hh0 htk (by omega) (by omega) (by omega)) rfl ⟨_, _, _, rfl, rfl, rfl⟩ (by decide) (by decide) rfl (Nat.le_of_ble_eq_true rfl) (fun M38 q37 => ?_)
          obtain ⟨iM38, fM380, eM38_97_12, eM38_97_19, eM38_97_27, eM38_97_28, pM38⟩ := q37
          have fM38 : Fr (fun c => c = 97 ∨ (108 ≤ c ∧ c ≤ 111)) M M38 := Fr.tr Fr.rf fM380 fi_34
          have q97_12_M38 : (M38 97 12 = M 97 12) := eM38_97_12
          have q97_19_M38 : (M38 97 19 = M 97 19) := eM38_97_19
          have wM38_97_27 : M38 97 27 = M 97 27 := eM38_97_27
          have CM38_110 : M38 110 = M 110 := fM380 110 (by decide)
          have CM38_111 : M38 111 = M 111 := fM380 111 (by decide)
          obtain ⟨siM38, lfM38, loM38, tkM38, faM38, fbM38⟩ := pM38
          have tbM38 := tkM38.b
          refine g_sub [0, 2] rfl ?_
          exact j_X10_readPart_141 X M hi F0 hs0 hh0 t ht01 hq0 htk hbad its M38 iM38 fM38 q97_12_M38 q97_19_M38 0 (by omega) siM38 lfM38 loM38 (SQ.nx hq0 (fM380 110 (by decide)) (by omega) (by omega)) tkM38 (by omega) (by omega) (by omega)
        · refine g_aload_n (pc' := 130) 2 dX10_readPart_129 rfl rfl ?_
          refine g_getL (pc' := 133) dX10_readPart_130 rfl f_X10_164 rfl rfl (fun v39 ev39 rv39 => ?_)
          refine g_l2i (pc' := 134) dX10_readPart_133 rfl ?_
          refine g_goto (tgt := 138) dX10_readPart_134 rfl ?_
          refine g_callVv (pc' := 141) (As := [vi 1, vi 0, vi v39]) (b := 97) (S := []) dX10_readPart_138 rfl m_X10_241 w_X10_leaf (c_X10_leaf X M hi 1 (by decide) 0 (by decide) v39 ⟨by omega, by omega⟩ F0 hs0 hh0 htk (by omega) (by omega) (by omega)) rfl ⟨_, _, _, rfl, rfl, rfl⟩ (by decide) (by decide) rfl (Nat.le_of_ble_eq_true rfl) (fun M41 q40 => ?_)
          obtain ⟨iM41, fM410, eM41_97_12, eM41_97_19, eM41_97_27, eM41_97_28, pM41⟩ := q40
          have fM41 : Fr (fun c => c = 97 ∨ (108 ≤ c ∧ c ≤ 111)) M M41 := Fr.tr Fr.rf fM410 fi_34
          have q97_12_M41 : (M41 97 12 = M 97 12) := eM41_97_12
          have q97_19_M41 : (M41 97 19 = M 97 19) := eM41_97_19
          have wM41_97_27 : M41 97 27 = M 97 27 := eM41_97_27
          have CM41_110 : M41 110 = M 110 := fM410 110 (by decide)
          have CM41_111 : M41 111 = M 111 := fM410 111 (by decide)
          obtain ⟨siM41, lfM41, loM41, tkM41, faM41, fbM41⟩ := pM41
          have tbM41 := tkM41.b
          refine g_sub [0, 2] rfl ?_
          exact j_X10_readPart_141 X M hi F0 hs0 hh0 t ht01 hq0 htk hbad its M41 iM41 fM41 q97_12_M41 q97_19_M41 0 (by omega) siM41 lfM41 loM41 (SQ.nx hq0 (fM410 110 (by decide)) (by omega) (by omega)) tkM41 (by omega) (by omega) (by omega)
set_option maxHeartbeats 4000000 in
set_option maxRecDepth 100000 in
theorem j_X10_readPart_75 (X : Cx) (M : Mm) (hi : IM M) (F0 : Int) (hs0 : SI M F0) (hh0 : HI M F0 0) (t : Int) (ht01 : t = 0 ∨ t = 1) (hq0 : SQ M t) (htk : TK M) (hbad : M 97 18 = 0) (its : Int) (hit : its = -1 ∨ (1 ≤ its ∧ its ≤ 4)) (his : its ≠ -1 → M 97 15 = 1) : G X 4 RX10 cX10_readPart 6 (some .int) (Qi (fun r M1 => IM M1 ∧ Fr (fun c => c = 97 ∨ (108 ≤ c ∧ c ≤ 111)) M M1 ∧ M1 97 12 = M 97 12 ∧ M1 97 19 = M 97 19 ∧ ((0 ≤ r ∧ r ≤ 4) ∧ PS M1 F0 r ∧ LO M M1 F0 ∧ TK M1 ∧ M 97 13 ≤ M1 97 13 ∧ mz (M1 97 13) (M1 97 18) r < mz (M 97 13) (M 97 18) t))) 75 [(1, vi its), (0, vr X 97)] [] M := by
  have p12 := hi.2.2.2.1
  have sa0 := hs0.ar
  have tb0 := htk.b
  have lt0 := htk.lt
  have wo0 := htk.wo
  refine g_aload_n (pc' := 76) 1 dX10_readPart_75 rfl rfl ?_
  refine g_getI (pc' := 79) dX10_readPart_76 rfl f_X10_174 rfl rfl (fun v1 ev1 rv1 => ?_)
  refine g_iconst (pc' := 80) dX10_readPart_79 rfl ?_
  refine g_ic_ne (pc' := 83) (tgt := 98) rv1 (by decide) dX10_readPart_80 rfl rfl (fun c2 => ?_) (fun c2 => ?_)
  · refine g_iconst (pc' := 99) dX10_readPart_98 rfl ?_
    refine g_istore_n (pc' := 100) (i := 2) (L' := [(2, vi 0), (1, vi its), (0, vr X 97)]) dX10_readPart_99 rfl rfl (by decide) rfl ?_
    refine g_sub [1, 0, 2] rfl ?_
    exact j_X10_readPart_100 X M hi F0 hs0 hh0 t ht01 hq0 htk hbad its 0 (by omega) (by omega) (by omega)
  · refine g_aload_n (pc' := 84) 1 dX10_readPart_83 rfl rfl ?_
    refine g_getL (pc' := 87) dX10_readPart_84 rfl f_X10_164 rfl rfl (fun v3 ev3 rv3 => ?_)
    refine g_ldc2 (pc' := 90) (v := 1000) dX10_readPart_87 rfl k_X10_239 ?_
    refine g_lc_gt (pc' := 94) (tgt := 98) rv3 (by decide) dX10_readPart_90 dX10_readPart_91 rfl rfl (fun c4 => ?_) (fun c4 => ?_)
    · refine g_iconst (pc' := 99) dX10_readPart_98 rfl ?_
      refine g_istore_n (pc' := 100) (i := 2) (L' := [(2, vi 0), (1, vi its), (0, vr X 97)]) dX10_readPart_99 rfl rfl (by decide) rfl ?_
      refine g_sub [1, 0, 2] rfl ?_
      exact j_X10_readPart_100 X M hi F0 hs0 hh0 t ht01 hq0 htk hbad its 0 (by omega) (by omega) (by omega)
    · refine g_iconst (pc' := 95) dX10_readPart_94 rfl ?_
      refine g_goto (tgt := 99) dX10_readPart_95 rfl ?_
      refine g_istore_n (pc' := 100) (i := 2) (L' := [(2, vi 1), (1, vi its), (0, vr X 97)]) dX10_readPart_99 rfl rfl (by decide) rfl ?_
      refine g_sub [1, 0, 2] rfl ?_
      exact j_X10_readPart_100 X M hi F0 hs0 hh0 t ht01 hq0 htk hbad its 1 (by omega) (by omega) (by omega)
set_option maxHeartbeats 4000000 in
set_option maxRecDepth 100000 in
theorem c_X10_readPart (X : Cx) (M : Mm) (hi : IM M) (F0 : Int) (hs0 : SI M F0) (hh0 : HI M F0 0) (t : Int) (ht01 : t = 0 ∨ t = 1) (hq0 : SQ M t) (htk : TK M) (hbad : M 97 18 = 0) : Con X 4 yX10_readPart cX10_readPart 6 (some .int) [vr X 97] M (Qi (fun r M1 => IM M1 ∧ Fr (fun c => c = 97 ∨ (108 ≤ c ∧ c ≤ 111)) M M1 ∧ M1 97 12 = M 97 12 ∧ M1 97 19 = M 97 19 ∧ ((0 ≤ r ∧ r ≤ 4) ∧ PS M1 F0 r ∧ LO M M1 F0 ∧ TK M1 ∧ M 97 13 ≤ M1 97 13 ∧ mz (M1 97 13) (M1 97 18) r < mz (M 97 13) (M 97 18) t))) := by
  refine Con.ofG rfl (Nat.le_of_ble_eq_true rfl) ?_
  show G X 4 RX10 cX10_readPart 6 (some .int) (Qi (fun r M1 => IM M1 ∧ Fr (fun c => c = 97 ∨ (108 ≤ c ∧ c ≤ 111)) M M1 ∧ M1 97 12 = M 97 12 ∧ M1 97 19 = M 97 19 ∧ ((0 ≤ r ∧ r ≤ 4) ∧ PS M1 F0 r ∧ LO M M1 F0 ∧ TK M1 ∧ M 97 13 ≤ M1 97 13 ∧ mz (M1 97 13) (M1 97 18) r < mz (M 97 13) (M 97 18) t))) 0 [(0, vr X 97)] [] M
  have p12 := hi.2.2.2.1
  have sa0 := hs0.ar
  have tb0 := htk.b
  have lt0 := htk.lt
  have wo0 := htk.wo
  refine g_aload_n (pc' := 1) 0 dX10_readPart_0 rfl rfl ?_
  refine g_bipush (pc' := 3) (v := 91) dX10_readPart_1 rfl (by decide) ?_
  refine g_callVip (pc' := 6) (As := [vi 91]) (b := 97) (S := []) dX10_readPart_3 rfl m_X10_221 w_X10_isSign (c_X10_isSign X M hi 91 (by decide)) rfl ⟨_, _, _, rfl, rfl, rfl⟩ (by decide) (by decide) rfl (Nat.le_of_ble_eq_true rfl) (fun z2 q1 => ?_)
  refine g_if_eq (pc' := 9) (tgt := 17) ⟨by omega, by omega⟩ dX10_readPart_6 rfl rfl (fun c3 => ?_) (fun c3 => ?_)
  · refine g_aload_n (pc' := 18) 0 dX10_readPart_17 rfl rfl ?_
    refine g_ldc2 (pc' := 21) (v := 218508) dX10_readPart_18 rfl k_X10_227 ?_
    refine g_callVip (pc' := 24) (As := [vl 218508]) (b := 97) (S := []) dX10_readPart_21 rfl m_X10_229 w_X10_isWord (c_X10_isWord X M hi 218508 (by decide)) rfl ⟨_, _, _, rfl, rfl, rfl⟩ (by decide) (by decide) rfl (Nat.le_of_ble_eq_true rfl) (fun z5 q4 => ?_)
    refine g_if_eq (pc' := 27) (tgt := 31) ⟨by omega, by omega⟩ dX10_readPart_24 rfl rfl (fun c6 => ?_) (fun c6 => ?_)
    · refine g_aload_n (pc' := 32) 0 dX10_readPart_31 rfl rfl ?_
      refine g_ldc2 (pc' := 35) (v := 632645) dX10_readPart_32 rfl k_X10_233 ?_
      refine g_callVip (pc' := 38) (As := [vl 632645]) (b := 97) (S := []) dX10_readPart_35 rfl m_X10_229 w_X10_isWord (c_X10_isWord X M hi 632645 (by decide)) rfl ⟨_, _, _, rfl, rfl, rfl⟩ (by decide) (by decide) rfl (Nat.le_of_ble_eq_true rfl) (fun z8 q7 => ?_)
      refine g_if_eq (pc' := 41) (tgt := 45) ⟨by omega, by omega⟩ dX10_readPart_38 rfl rfl (fun c9 => ?_) (fun c9 => ?_)
      · refine g_aload_n (pc' := 46) 0 dX10_readPart_45 rfl rfl ?_
        refine g_ldc2 (pc' := 49) (v := 21024389) dX10_readPart_46 rfl k_X10_235 ?_
        refine g_callVip (pc' := 52) (As := [vl 21024389]) (b := 97) (S := []) dX10_readPart_49 rfl m_X10_229 w_X10_isWord (c_X10_isWord X M hi 21024389 (by decide)) rfl ⟨_, _, _, rfl, rfl, rfl⟩ (by decide) (by decide) rfl (Nat.le_of_ble_eq_true rfl) (fun z11 q10 => ?_)
        refine g_if_eq (pc' := 55) (tgt := 59) ⟨by omega, by omega⟩ dX10_readPart_52 rfl rfl (fun c12 => ?_) (fun c12 => ?_)
        · refine g_aload_n (pc' := 60) 0 dX10_readPart_59 rfl rfl ?_
          refine g_ldc2 (pc' := 63) (v := 146885) dX10_readPart_60 rfl k_X10_237 ?_
          refine g_callVip (pc' := 66) (As := [vl 146885]) (b := 97) (S := []) dX10_readPart_63 rfl m_X10_229 w_X10_isWord (c_X10_isWord X M hi 146885 (by decide)) rfl ⟨_, _, _, rfl, rfl, rfl⟩ (by decide) (by decide) rfl (Nat.le_of_ble_eq_true rfl) (fun z14 q13 => ?_)
          refine g_if_eq (pc' := 69) (tgt := 73) ⟨by omega, by omega⟩ dX10_readPart_66 rfl rfl (fun c15 => ?_) (fun c15 => ?_)
          · refine g_iconst (pc' := 74) dX10_readPart_73 rfl ?_
            refine g_istore_n (pc' := 75) (i := 1) (L' := [(1, vi (-1)), (0, vr X 97)]) dX10_readPart_74 rfl rfl (by decide) rfl ?_
            refine g_sub [0, 1] rfl ?_
            exact j_X10_readPart_75 X M hi F0 hs0 hh0 t ht01 hq0 htk hbad (-1) (by omega) (by omega)
          · refine g_iconst (pc' := 70) dX10_readPart_69 rfl ?_
            refine g_goto (tgt := 74) dX10_readPart_70 rfl ?_
            refine g_istore_n (pc' := 75) (i := 1) (L' := [(1, vi 4), (0, vr X 97)]) dX10_readPart_74 rfl rfl (by decide) rfl ?_
            refine g_sub [0, 1] rfl ?_
            exact j_X10_readPart_75 X M hi F0 hs0 hh0 t ht01 hq0 htk hbad 4 (by omega) (by omega)
        · refine g_iconst (pc' := 56) dX10_readPart_55 rfl ?_
          refine g_goto (tgt := 74) dX10_readPart_56 rfl ?_
          refine g_istore_n (pc' := 75) (i := 1) (L' := [(1, vi 3), (0, vr X 97)]) dX10_readPart_74 rfl rfl (by decide) rfl ?_
          refine g_sub [0, 1] rfl ?_
          exact j_X10_readPart_75 X M hi F0 hs0 hh0 t ht01 hq0 htk hbad 3 (by omega) (by omega)
      · refine g_iconst (pc' := 42) dX10_readPart_41 rfl ?_
        refine g_goto (tgt := 74) dX10_readPart_42 rfl ?_
        refine g_istore_n (pc' := 75) (i := 1) (L' := [(1, vi 2), (0, vr X 97)]) dX10_readPart_74 rfl rfl (by decide) rfl ?_
        refine g_sub [0, 1] rfl ?_
        exact j_X10_readPart_75 X M hi F0 hs0 hh0 t ht01 hq0 htk hbad 2 (by omega) (by omega)
    · refine g_iconst (pc' := 28) dX10_readPart_27 rfl ?_
      refine g_goto (tgt := 74) dX10_readPart_28 rfl ?_
      refine g_istore_n (pc' := 75) (i := 1) (L' := [(1, vi 1), (0, vr X 97)]) dX10_readPart_74 rfl rfl (by decide) rfl ?_
      refine g_sub [0, 1] rfl ?_
      exact j_X10_readPart_75 X M hi F0 hs0 hh0 t ht01 hq0 htk hbad 1 (by omega) (by omega)
  · refine g_aload_n (pc' := 10) 0 dX10_readPart_9 rfl rfl ?_
    refine g_bipush (pc' := 12) (v := 31) dX10_readPart_10 rfl (by decide) ?_
    refine g_callVv (pc' := 15) (As := [vi 31]) (b := 97) (S := []) dX10_readPart_12 rfl m_X10_224 w_X10_openBracket (c_X10_openBracket X M hi 31 (by decide) F0 hs0 hh0 t hq0 htk (by omega) (by omega)) rfl ⟨_, _, _, rfl, rfl, rfl⟩ (by decide) (by decide) rfl (Nat.le_of_ble_eq_true rfl) (fun M17 q16 => ?_)
    obtain ⟨iM17, fM170, eM17_97_12, eM17_97_19, pM17⟩ := q16
    have fM17 : Fr (fun c => c = 97 ∨ (108 ≤ c ∧ c ≤ 111)) M M17 := Fr.tr Fr.rf fM170 fi_35
    have q97_12_M17 : (M17 97 12 = M 97 12) := eM17_97_12
    have q97_19_M17 : (M17 97 19 = M 97 19) := eM17_97_19
    have CM17_108 : M17 108 = M 108 := fM170 108 (by decide)
    have CM17_109 : M17 109 = M 109 := fM170 109 (by decide)
    obtain ⟨psM17, loM17, tkM17, faM17, fbM17⟩ := pM17
    have tbM17 := tkM17.b
    refine g_iconst (pc' := 16) dX10_readPart_15 rfl ?_
    refine g_ireturn dX10_readPart_16 ?_
    exact ⟨iM17, fM17, q97_12_M17, q97_19_M17, ⟨by omega, by omega⟩, (PS.t_ psM17 (by omega)), loM17, tkM17, by omega, (mz_lt hbad (by omega) (by omega) (by omega))⟩
set_option maxHeartbeats 4000000 in
set_option maxRecDepth 100000 in
theorem c_X10_readPlain (X : Cx) (M : Mm) (hi : IM M) (F0 : Int) (hs0 : SI M F0) (hh0 : HI M F0 0) (hq0 : SQ M 0) (htk : TK M) (hbad : M 97 18 = 0) : Con X 5 yX10_readPlain cX10_readPlain 1 (some .int) [vr X 97] M (Qi (fun r M1 => IM M1 ∧ Fr (fun c => c = 97 ∨ (108 ≤ c ∧ c ≤ 111)) M M1 ∧ M1 97 12 = M 97 12 ∧ M1 97 19 = M 97 19 ∧ ((0 ≤ r ∧ r ≤ 4) ∧ PS M1 F0 r ∧ LO M M1 F0 ∧ TK M1 ∧ M 97 13 ≤ M1 97 13 ∧ mz (M1 97 13) (M1 97 18) r < mz (M 97 13) (M 97 18) 0))) := by
  refine Con.ofG rfl (Nat.le_of_ble_eq_true rfl) ?_
  show G X 5 RX10 cX10_readPlain 1 (some .int) (Qi (fun r M1 => IM M1 ∧ Fr (fun c => c = 97 ∨ (108 ≤ c ∧ c ≤ 111)) M M1 ∧ M1 97 12 = M 97 12 ∧ M1 97 19 = M 97 19 ∧ ((0 ≤ r ∧ r ≤ 4) ∧ PS M1 F0 r ∧ LO M M1 F0 ∧ TK M1 ∧ M 97 13 ≤ M1 97 13 ∧ mz (M1 97 13) (M1 97 18) r < mz (M 97 13) (M 97 18) 0))) 0 [(0, vr X 97)] [] M
  have p12 := hi.2.2.2.1
  have sa0 := hs0.ar
  have tb0 := htk.b
  have lt0 := htk.lt
  refine g_aload_n (pc' := 1) 0 dX10_readPlain_0 rfl rfl ?_
  refine g_ldc2 (pc' := 4) (v := 14836) dX10_readPlain_1 rfl k_X10_248 ?_
  refine g_callVip (pc' := 7) (As := [vl 14836]) (b := 97) (S := []) dX10_readPlain_4 rfl m_X10_229 w_X10_isWord (c_X10_isWord X M hi 14836 (by decide)) rfl ⟨_, _, _, rfl, rfl, rfl⟩ (by decide) (by decide) rfl (Nat.le_of_ble_eq_true rfl) (fun z2 q1 => ?_)
  refine g_if_eq (pc' := 10) (tgt := 23) ⟨by omega, by omega⟩ dX10_readPlain_7 rfl rfl (fun c3 => ?_) (fun c3 => ?_)
  · refine g_aload_n (pc' := 24) 0 dX10_readPlain_23 rfl rfl ?_
    refine g_bipush (pc' := 26) (v := 40) dX10_readPlain_24 rfl (by decide) ?_
    refine g_callVip (pc' := 29) (As := [vi 40]) (b := 97) (S := []) dX10_readPlain_26 rfl m_X10_221 w_X10_isSign (c_X10_isSign X M hi 40 (by decide)) rfl ⟨_, _, _, rfl, rfl, rfl⟩ (by decide) (by decide) rfl (Nat.le_of_ble_eq_true rfl) (fun z5 q4 => ?_)
    refine g_if_eq (pc' := 32) (tgt := 40) ⟨by omega, by omega⟩ dX10_readPlain_29 rfl rfl (fun c6 => ?_) (fun c6 => ?_)
    · refine g_aload_n (pc' := 41) 0 dX10_readPlain_40 rfl rfl ?_
      refine g_callVi (pc' := 44) (As := []) (b := 97) (S := []) dX10_readPlain_41 rfl m_X10_250 w_X10_readPart (c_X10_readPart X M hi F0 hs0 hh0 0 (by omega) hq0 htk hbad) rfl ⟨_, _, _, rfl, rfl, rfl⟩ (by decide) (by decide) rfl (Nat.le_of_ble_eq_true rfl) (fun z8 M9 q7 => ?_)
      obtain ⟨iM9, fM90, eM9_97_12, eM9_97_19, pM9⟩ := q7
      have fM9 : Fr (fun c => c = 97 ∨ (108 ≤ c ∧ c ≤ 111)) M M9 := Fr.tr Fr.rf fM90 (fun _ z => z)
      have q97_12_M9 : (M9 97 12 = M 97 12) := eM9_97_12
      have q97_19_M9 : (M9 97 19 = M 97 19) := eM9_97_19
      obtain ⟨rbM9, psM9, loM9, tkM9, faM9, mzM9⟩ := pM9
      have tbM9 := tkM9.b
      refine g_ireturn dX10_readPlain_44 ?_
      exact ⟨iM9, fM9, q97_12_M9, q97_19_M9, ⟨by omega, by omega⟩, psM9, loM9, tkM9, by omega, mzM9⟩
    · refine g_aload_n (pc' := 33) 0 dX10_readPlain_32 rfl rfl ?_
      refine g_bipush (pc' := 35) (v := 30) dX10_readPlain_33 rfl (by decide) ?_
      refine g_callVv (pc' := 38) (As := [vi 30]) (b := 97) (S := []) dX10_readPlain_35 rfl m_X10_224 w_X10_openBracket (c_X10_openBracket X M hi 30 (by decide) F0 hs0 hh0 0 hq0 htk (by omega) (by omega)) rfl ⟨_, _, _, rfl, rfl, rfl⟩ (by decide) (by decide) rfl (Nat.le_of_ble_eq_true rfl) (fun M11 q10 => ?_)
      obtain ⟨iM11, fM110, eM11_97_12, eM11_97_19, pM11⟩ := q10
      have fM11 : Fr (fun c => c = 97 ∨ (108 ≤ c ∧ c ≤ 111)) M M11 := Fr.tr Fr.rf fM110 fi_35
      have q97_12_M11 : (M11 97 12 = M 97 12) := eM11_97_12
      have q97_19_M11 : (M11 97 19 = M 97 19) := eM11_97_19
      have CM11_108 : M11 108 = M 108 := fM110 108 (by decide)
      have CM11_109 : M11 109 = M 109 := fM110 109 (by decide)
      obtain ⟨psM11, loM11, tkM11, faM11, fbM11⟩ := pM11
      have tbM11 := tkM11.b
      refine g_iconst (pc' := 39) dX10_readPlain_38 rfl ?_
      refine g_ireturn dX10_readPlain_39 ?_
      exact ⟨iM11, fM11, q97_12_M11, q97_19_M11, ⟨by omega, by omega⟩, (PS.t_ psM11 (by omega)), loM11, tkM11, by omega, (mz_lt hbad (by omega) (by omega) (by omega))⟩
  · refine g_aload_n (pc' := 11) 0 dX10_readPlain_10 rfl rfl ?_
    refine g_bipush (pc' := 13) (v := 27) dX10_readPlain_11 rfl (by decide) ?_
    refine g_iconst (pc' := 14) dX10_readPlain_13 rfl ?_
    refine g_callVv (pc' := 17) (As := [vi 27, vi 0]) (b := 97) (S := []) dX10_readPlain_14 rfl m_X10_215 w_X10_push (c_X10_push X M hi 27 (by decide) 0 (by decide) (by omega)) rfl ⟨_, _, _, rfl, rfl, rfl⟩ (by decide) (by decide) rfl (Nat.le_of_ble_eq_true rfl) (fun M13 q12 => ?_)
    obtain ⟨iM13, fM130, eM13_97_12, eM13_97_19, eM13_97_21, eM13_97_24, eM13_97_28, eM13_97_13, eM13_97_14, eM13_97_15, eM13_97_16, eM13_97_18, pM13⟩ := q12
    have fM13 : Fr (fun c => c = 97 ∨ (108 ≤ c ∧ c ≤ 111)) M M13 := Fr.tr Fr.rf fM130 fi_35
    have q97_12_M13 : (M13 97 12 = M 97 12) := eM13_97_12
    have q97_19_M13 : (M13 97 19 = M 97 19) := eM13_97_19
    have wM13_97_13 : M13 97 13 = M 97 13 := eM13_97_13
    have wM13_97_14 : M13 97 14 = M 97 14 := eM13_97_14
    have wM13_97_15 : M13 97 15 = M 97 15 := eM13_97_15
    have wM13_97_18 : M13 97 18 = M 97 18 := eM13_97_18
    have wM13_97_21 : M13 97 21 = M 97 21 := eM13_97_21
    have CM13_108 : M13 108 = M 108 := fM130 108 (by decide)
    have CM13_109 : M13 109 = M 109 := fM130 109 (by decide)
    have CM13_110 : M13 110 = ms (M 110) (M 97 27).toNat 27 := by rw [pM13.1, show M 97 27 = M 97 27 by omega]
    have CM13_111 : M13 111 = ms (M 111) (M 97 27).toNat 0 := by rw [pM13.2.1, show M 97 27 = M 97 27 by omega]
    have tkM13 : TK M13 := TK.eq htk eM13_97_12 eM13_97_13 eM13_97_14 eM13_97_15 eM13_97_16
    have ppM13 := pM13.2.2
    clear pM13
    refine g_aload_n (pc' := 18) 0 dX10_readPlain_17 rfl rfl ?_
    refine g_callVv (pc' := 21) (As := []) (b := 97) (S := []) dX10_readPlain_18 rfl m_X10_158 w_X10_next (c_X10_next X M13 iM13 (by omega)) rfl ⟨_, _, _, rfl, rfl, rfl⟩ (by decide) (by decide) rfl (Nat.le_of_ble_eq_true rfl) (fun M15 q14 => ?_)
    obtain ⟨iM15, fM150, eM15_97_12, eM15_97_19, eM15_97_21, eM15_97_24, eM15_97_27, eM15_97_28, eM15_97_18, pM15⟩ := q14
    have fM15 : Fr (fun c => c = 97 ∨ (108 ≤ c ∧ c ≤ 111)) M M15 := Fr.tr fM13 fM150 fi_33
    have q97_12_M15 : (M15 97 12 = M 97 12) := eM15_97_12.trans q97_12_M13
    have q97_19_M15 : (M15 97 19 = M 97 19) := eM15_97_19.trans q97_19_M13
    have wM15_97_18 : M15 97 18 = M13 97 18 := eM15_97_18
    have wM15_97_21 : M15 97 21 = M13 97 21 := eM15_97_21
    have wM15_97_27 : M15 97 27 = M13 97 27 := eM15_97_27
    have CM15_108 : M15 108 = M 108 := (fM150 108 (by decide)).trans CM13_108
    have CM15_109 : M15 109 = M 109 := (fM150 109 (by decide)).trans CM13_109
    have CM15_110 : M15 110 = ms (M 110) (M 97 27).toNat 27 := (fM150 110 (by decide)).trans CM13_110
    have CM15_111 : M15 111 = ms (M 111) (M 97 27).toNat 0 := (fM150 111 (by decide)).trans CM13_111
    obtain ⟨aM15p, kM15p⟩ := pM15
    have tkM15 : TK M15 := kM15p
    clear kM15p
    have tbM15 := tkM15.b
    refine g_iconst (pc' := 22) dX10_readPlain_21 rfl ?_
    refine g_ireturn dX10_readPlain_22 ?_
    exact ⟨iM15, fM15, q97_12_M15, q97_19_M15, ⟨by omega, by omega⟩, (PS.mk_ (q := 0) (SI.push hs0 (by omega) (by omega) CM15_110 CM15_111 (by omega) (by omega) (by omega) (by omega)) (HI.push hs0 hh0 (by omega) CM15_108 CM15_109 CM15_110 CM15_111 (by omega) (by omega)) (SQ.push hq0 CM15_110 (by omega) (by omega) (by omega) (by omega)) (by omega)), (LO.eq CM15_108 CM15_109), tkM15, by omega, (mz_lt hbad (by omega) (by omega) (by omega))⟩
set_option maxHeartbeats 4000000 in
set_option maxRecDepth 100000 in
theorem j_X10_behindSum_189 (X : Cx) (M : Mm) (hi : IM M) (a : Int) (ha : inI a) (F0 : Int) (hs0 : SI M F0) (hh0 : HI M F0 1) (hq0 : SQ M 3) (htk : TK M) (hbad : M 97 18 = 0) (op : Int) (hop : 24 ≤ op ∧ op ≤ 26) (hos : op ≠ 26 → M 97 15 = 3) (sq2 : SQ M 2) : G X 3 RX10 cX10_behindSum 4 (some .int) (Qi (fun r M1 => IM M1 ∧ Fr (fun c => c = 97 ∨ (108 ≤ c ∧ c ≤ 111)) M M1 ∧ M1 97 12 = M 97 12 ∧ M1 97 19 = M 97 19 ∧ ((0 ≤ r ∧ r ≤ 4) ∧ PS M1 F0 r ∧ LO M M1 F0 ∧ TK M1 ∧ M 97 13 ≤ M1 97 13 ∧ mz (M1 97 13) (M1 97 18) r < mz (M 97 13) (M 97 18) 3))) 189 [(2, vi op), (0, vr X 97)] [] M := by
  have p12 := hi.2.2.2.1
  have sa0 := hs0.ar
  have tb0 := htk.b
  have lt0 := htk.lt
  refine g_aload_n (pc' := 190) 1 dX10_behindSum_189 rfl rfl ?_
  refine g_iload_n (pc' := 191) 0 dX10_behindSum_190 rfl rfl ?_
  refine g_bipush (pc' := 193) (v := 26) dX10_behindSum_191 rfl (by decide) ?_
  refine g_ic_ne (pc' := 196) (tgt := 205) ⟨by omega, by omega⟩ (by decide) dX10_behindSum_193 rfl rfl (fun c1 => ?_) (fun c1 => ?_)
  · refine g_iconst (pc' := 206) dX10_behindSum_205 rfl ?_
    refine g_goto (tgt := 210) dX10_behindSum_206 rfl ?_
    refine g_callVv (pc' := 213) (As := [vi 1]) (b := 97) (S := []) dX10_behindSum_210 rfl m_X10_187 w_X10_must (c_X10_must X M hi 1 (by decide) htk) rfl ⟨_, _, _, rfl, rfl, rfl⟩ (by decide) (by decide) rfl (Nat.le_of_ble_eq_true rfl) (fun M3 q2 => ?_)
    obtain ⟨iM3, fM30, eM3_97_12, eM3_97_19, eM3_97_21, eM3_97_24, eM3_97_27, eM3_97_28, pM3⟩ := q2
    have fM3 : Fr (fun c => c = 97 ∨ (108 ≤ c ∧ c ≤ 111)) M M3 := Fr.tr Fr.rf fM30 fi_33
    have q97_12_M3 : (M3 97 12 = M 97 12) := eM3_97_12
    have q97_19_M3 : (M3 97 19 = M 97 19) := eM3_97_19
    have wM3_97_21 : M3 97 21 = M 97 21 := eM3_97_21
    have wM3_97_27 : M3 97 27 = M 97 27 := eM3_97_27
    have CM3_108 : M3 108 = M 108 := fM30 108 (by decide)
    have CM3_109 : M3 109 = M 109 := fM30 109 (by decide)
    have CM3_110 : M3 110 = M 110 := fM30 110 (by decide)
    have CM3_111 : M3 111 = M 111 := fM30 111 (by decide)
    obtain ⟨aM3p, bM3p, cM3p, kM3p⟩ := pM3
    have tkM3 : TK M3 := kM3p
    clear kM3p
    have tbM3 := tkM3.b
    have siM3 : SI M3 F0 := SI.nx hs0 CM3_110 CM3_111 (by omega) (by omega) (by omega) (by omega)
    have hiM3 := HI.nx hh0 CM3_108 CM3_109 CM3_110 CM3_111 (by omega) (by omega)
    have sqM3 : SQ M3 2 := SQ.nx sq2 CM3_110 (by omega) (by omega)
    have loM3 : LO M M3 F0 := LO.tr (LO.rf _ _) (LO.eq CM3_108 CM3_109)
    refine g_aload_n (pc' := 214) 1 dX10_behindSum_213 rfl rfl ?_
    refine g_getI (pc' := 217) dX10_behindSum_214 rfl f_X10_154 rfl rfl (fun v4 ev4 rv4 => ?_)
    refine g_if_ne (pc' := 220) (tgt := 231) rv4 dX10_behindSum_217 rfl rfl (fun c5 => ?_) (fun c5 => ?_)
    · refine g_iconst (pc' := 232) dX10_behindSum_231 rfl ?_
      refine g_ireturn dX10_behindSum_232 ?_
      exact ⟨iM3, fM3, q97_12_M3, q97_19_M3, ⟨by omega, by omega⟩, (PS.bad siM3 (by omega)), loM3, tkM3, by omega, (mz_lt hbad (by omega) (by omega) (by omega))⟩
    · refine g_aload_n (pc' := 221) 1 dX10_behindSum_220 rfl rfl ?_
      refine g_iconst (pc' := 222) dX10_behindSum_221 rfl ?_
      refine g_callVv (pc' := 225) (As := [vi 5]) (b := 97) (S := []) dX10_behindSum_222 rfl m_X10_254 w_X10_settle (c_X10_settle X M3 iM3 5 (by decide) F0 siM3 (by omega)) rfl ⟨_, _, _, rfl, rfl, rfl⟩ (by decide) (by decide) rfl (Nat.le_of_ble_eq_true rfl) (fun M7 q6 => ?_)
      obtain ⟨iM7, fM70, eM7_97_12, eM7_97_19, eM7_97_24, eM7_97_28, eM7_97_13, eM7_97_14, eM7_97_15, eM7_97_16, eM7_97_18, pM7⟩ := q6
      have fM7 : Fr (fun c => c = 97 ∨ (108 ≤ c ∧ c ≤ 111)) M M7 := Fr.tr fM3 fM70 fi_34
      have q97_12_M7 : (M7 97 12 = M 97 12) := eM7_97_12.trans q97_12_M3
      have q97_19_M7 : (M7 97 19 = M 97 19) := eM7_97_19.trans q97_19_M3
      have wM7_97_13 : M7 97 13 = M3 97 13 := eM7_97_13
      have wM7_97_14 : M7 97 14 = M3 97 14 := eM7_97_14
      have wM7_97_15 : M7 97 15 = M3 97 15 := eM7_97_15
      have wM7_97_18 : M7 97 18 = M3 97 18 := eM7_97_18
      have CM7_110 : M7 110 = M 110 := (fM70 110 (by decide)).trans CM3_110
      have CM7_111 : M7 111 = M 111 := (fM70 111 (by decide)).trans CM3_111
      have tkM7 : TK M7 := TK.eq tkM3 eM7_97_12 eM7_97_13 eM7_97_14 eM7_97_15 eM7_97_16
      obtain ⟨siM7, htM7, loM70, stM7, sxM7⟩ := pM7
      have spM7 := stM7.1
      have saM7 := siM7.ar
      have loM7 : LO M M7 F0 := LO.tr loM3 loM70
      have hiM7 : HI M7 F0 1 := htM7 hiM3
      have sqM7 : SQ M7 2 := SQ.nx sqM3 (fM70 110 (by decide)) (by omega) (by omega)
      refine g_aload_n (pc' := 226) 1 dX10_behindSum_225 rfl rfl ?_
      refine g_iload_n (pc' := 227) 0 dX10_behindSum_226 rfl rfl ?_
      refine g_iconst (pc' := 228) dX10_behindSum_227 rfl ?_
      refine g_callVv (pc' := 231) (As := [vi op, vi 0]) (b := 97) (S := []) dX10_behindSum_228 rfl m_X10_215 w_X10_push (c_X10_push X M7 iM7 op ⟨by omega, by omega⟩ 0 (by decide) (by omega)) rfl ⟨_, _, _, rfl, rfl, rfl⟩ (by decide) (by decide) rfl (Nat.le_of_ble_eq_true rfl) (fun M9 q8 => ?_)
      obtain ⟨iM9, fM90, eM9_97_12, eM9_97_19, eM9_97_21, eM9_97_24, eM9_97_28, eM9_97_13, eM9_97_14, eM9_97_15, eM9_97_16, eM9_97_18, pM9⟩ := q8
      have fM9 : Fr (fun c => c = 97 ∨ (108 ≤ c ∧ c ≤ 111)) M M9 := Fr.tr fM7 fM90 fi_35
      have q97_12_M9 : (M9 97 12 = M 97 12) := eM9_97_12.trans q97_12_M7
      have q97_19_M9 : (M9 97 19 = M 97 19) := eM9_97_19.trans q97_19_M7
      have wM9_97_13 : M9 97 13 = M7 97 13 := eM9_97_13
      have wM9_97_14 : M9 97 14 = M7 97 14 := eM9_97_14
      have wM9_97_15 : M9 97 15 = M7 97 15 := eM9_97_15
      have wM9_97_18 : M9 97 18 = M7 97 18 := eM9_97_18
      have wM9_97_21 : M9 97 21 = M7 97 21 := eM9_97_21
      have CM9_108 : M9 108 = M7 108 := fM90 108 (by decide)
      have CM9_109 : M9 109 = M7 109 := fM90 109 (by decide)
      have CM9_110 : M9 110 = ms (M7 110) (M7 97 27).toNat op := by rw [pM9.1, show M7 97 27 = M7 97 27 by omega]
      have CM9_111 : M9 111 = ms (M7 111) (M7 97 27).toNat 0 := by rw [pM9.2.1, show M7 97 27 = M7 97 27 by omega]
      have tkM9 : TK M9 := TK.eq tkM7 eM9_97_12 eM9_97_13 eM9_97_14 eM9_97_15 eM9_97_16
      have ppM9 := pM9.2.2
      clear pM9
      refine g_iconst (pc' := 232) dX10_behindSum_231 rfl ?_
      refine g_ireturn dX10_behindSum_232 ?_
      exact ⟨iM9, fM9, q97_12_M9, q97_19_M9, ⟨by omega, by omega⟩, (PS.mk_ (q := 0) (SI.cmp hs0 siM7 stM7 sxM7 CM3_110 (by omega) (by omega) (fM70 110 (by decide)) (by omega) (by omega) CM9_110 CM9_111 (by omega) (by omega) (by omega) (by omega)) (HI.push siM7 hiM7 (by omega) CM9_108 CM9_109 CM9_110 CM9_111 (by omega) (by omega)) (SQ.push sqM7 CM9_110 (by omega) (by omega) (by omega) (by omega)) (by omega)), (LO.tr loM7 (LO.eq CM9_108 CM9_109)), tkM9, by omega, (mz_lt hbad (by omega) (by omega) (by omega))⟩
  · refine g_aload_n (pc' := 197) 1 dX10_behindSum_196 rfl rfl ?_
    refine g_bipush (pc' := 199) (v := 61) dX10_behindSum_197 rfl (by decide) ?_
    refine g_callVip (pc' := 202) (As := [vi 61]) (b := 97) (S := [vr X 97]) dX10_behindSum_199 rfl m_X10_221 w_X10_isSign (c_X10_isSign X M hi 61 (by decide)) rfl ⟨_, _, _, rfl, rfl, rfl⟩ (by decide) (by decide) rfl (Nat.le_of_ble_eq_true rfl) (fun z11 q10 => ?_)
    refine g_if_eq (pc' := 205) (tgt := 209) ⟨by omega, by omega⟩ dX10_behindSum_202 rfl rfl (fun c12 => ?_) (fun c12 => ?_)
    · refine g_iconst (pc' := 210) dX10_behindSum_209 rfl ?_
      refine g_callVv (pc' := 213) (As := [vi 0]) (b := 97) (S := []) dX10_behindSum_210 rfl m_X10_187 w_X10_must (c_X10_must X M hi 0 (by decide) htk) rfl ⟨_, _, _, rfl, rfl, rfl⟩ (by decide) (by decide) rfl (Nat.le_of_ble_eq_true rfl) (fun M14 q13 => ?_)
      obtain ⟨iM14, fM140, eM14_97_12, eM14_97_19, eM14_97_21, eM14_97_24, eM14_97_27, eM14_97_28, pM14⟩ := q13
      have fM14 : Fr (fun c => c = 97 ∨ (108 ≤ c ∧ c ≤ 111)) M M14 := Fr.tr Fr.rf fM140 fi_33
      have q97_12_M14 : (M14 97 12 = M 97 12) := eM14_97_12
      have q97_19_M14 : (M14 97 19 = M 97 19) := eM14_97_19
      have wM14_97_21 : M14 97 21 = M 97 21 := eM14_97_21
      have wM14_97_27 : M14 97 27 = M 97 27 := eM14_97_27
      have CM14_108 : M14 108 = M 108 := fM140 108 (by decide)
      have CM14_109 : M14 109 = M 109 := fM140 109 (by decide)
      have CM14_110 : M14 110 = M 110 := fM140 110 (by decide)
      have CM14_111 : M14 111 = M 111 := fM140 111 (by decide)
      obtain ⟨aM14p, bM14p, cM14p, kM14p⟩ := pM14
      have tkM14 : TK M14 := kM14p
      clear kM14p
      have tbM14 := tkM14.b
      have siM14 : SI M14 F0 := SI.nx hs0 CM14_110 CM14_111 (by omega) (by omega) (by omega) (by omega)
      have hiM14 := HI.nx hh0 CM14_108 CM14_109 CM14_110 CM14_111 (by omega) (by omega)
      have sqM14 : SQ M14 2 := SQ.nx sq2 CM14_110 (by omega) (by omega)
      have loM14 : LO M M14 F0 := LO.tr (LO.rf _ _) (LO.eq CM14_108 CM14_109)
      refine g_aload_n (pc' := 214) 1 dX10_behindSum_213 rfl rfl ?_
      refine g_getI (pc' := 217) dX10_behindSum_214 rfl f_X10_154 rfl rfl (fun v15 ev15 rv15 => ?_)
      refine g_if_ne (pc' := 220) (tgt := 231) rv15 dX10_behindSum_217 rfl rfl (fun c16 => ?_) (fun c16 => ?_)
      · refine g_iconst (pc' := 232) dX10_behindSum_231 rfl ?_
        refine g_ireturn dX10_behindSum_232 ?_
        exact ⟨iM14, fM14, q97_12_M14, q97_19_M14, ⟨by omega, by omega⟩, (PS.bad siM14 (by omega)), loM14, tkM14, by omega, (mz_lt hbad (by omega) (by omega) (by omega))⟩
      · refine g_aload_n (pc' := 221) 1 dX10_behindSum_220 rfl rfl ?_
        refine g_iconst (pc' := 222) dX10_behindSum_221 rfl ?_
        refine g_callVv (pc' := 225) (As := [vi 5]) (b := 97) (S := []) dX10_behindSum_222 rfl m_X10_254 w_X10_settle (c_X10_settle X M14 iM14 5 (by decide) F0 siM14 (by omega)) rfl ⟨_, _, _, rfl, rfl, rfl⟩ (by decide) (by decide) rfl (Nat.le_of_ble_eq_true rfl) (fun M18 q17 => ?_)
        obtain ⟨iM18, fM180, eM18_97_12, eM18_97_19, eM18_97_24, eM18_97_28, eM18_97_13, eM18_97_14, eM18_97_15, eM18_97_16, eM18_97_18, pM18⟩ := q17
        have fM18 : Fr (fun c => c = 97 ∨ (108 ≤ c ∧ c ≤ 111)) M M18 := Fr.tr fM14 fM180 fi_34
        have q97_12_M18 : (M18 97 12 = M 97 12) := eM18_97_12.trans q97_12_M14
        have q97_19_M18 : (M18 97 19 = M 97 19) := eM18_97_19.trans q97_19_M14
        have wM18_97_13 : M18 97 13 = M14 97 13 := eM18_97_13
        have wM18_97_14 : M18 97 14 = M14 97 14 := eM18_97_14
        have wM18_97_15 : M18 97 15 = M14 97 15 := eM18_97_15
        have wM18_97_18 : M18 97 18 = M14 97 18 := eM18_97_18
        have CM18_110 : M18 110 = M 110 := (fM180 110 (by decide)).trans CM14_110
        have CM18_111 : M18 111 = M 111 := (fM180 111 (by decide)).trans CM14_111
        have tkM18 : TK M18 := TK.eq tkM14 eM18_97_12 eM18_97_13 eM18_97_14 eM18_97_15 eM18_97_16
        obtain ⟨siM18, htM18, loM180, stM18, sxM18⟩ := pM18
        have spM18 := stM18.1
        have saM18 := siM18.ar
        have loM18 : LO M M18 F0 := LO.tr loM14 loM180
        have hiM18 : HI M18 F0 1 := htM18 hiM14
        have sqM18 : SQ M18 2 := SQ.nx sqM14 (fM180 110 (by decide)) (by omega) (by omega)
        refine g_aload_n (pc' := 226) 1 dX10_behindSum_225 rfl rfl ?_
        refine g_iload_n (pc' := 227) 0 dX10_behindSum_226 rfl rfl ?_
        refine g_iconst (pc' := 228) dX10_behindSum_227 rfl ?_
        refine g_callVv (pc' := 231) (As := [vi op, vi 0]) (b := 97) (S := []) dX10_behindSum_228 rfl m_X10_215 w_X10_push (c_X10_push X M18 iM18 op ⟨by omega, by omega⟩ 0 (by decide) (by omega)) rfl ⟨_, _, _, rfl, rfl, rfl⟩ (by decide) (by decide) rfl (Nat.le_of_ble_eq_true rfl) (fun M20 q19 => ?_)
        obtain ⟨iM20, fM200, eM20_97_12, eM20_97_19, eM20_97_21, eM20_97_24, eM20_97_28, eM20_97_13, eM20_97_14, eM20_97_15, eM20_97_16, eM20_97_18, pM20⟩ := q19
        have fM20 : Fr (fun c => c = 97 ∨ (108 ≤ c ∧ c ≤ 111)) M M20 := Fr.tr fM18 fM200 fi_35
        have q97_12_M20 : (M20 97 12 = M 97 12) := eM20_97_12.trans q97_12_M18
        have q97_19_M20 : (M20 97 19 = M 97 19) := eM20_97_19.trans q97_19_M18
        have wM20_97_13 : M20 97 13 = M18 97 13 := eM20_97_13
        have wM20_97_14 : M20 97 14 = M18 97 14 := eM20_97_14
        have wM20_97_15 : M20 97 15 = M18 97 15 := eM20_97_15
        have wM20_97_18 : M20 97 18 = M18 97 18 := eM20_97_18
        have wM20_97_21 : M20 97 21 = M18 97 21 := eM20_97_21
        have CM20_108 : M20 108 = M18 108 := fM200 108 (by decide)
        have CM20_109 : M20 109 = M18 109 := fM200 109 (by decide)
        have CM20_110 : M20 110 = ms (M18 110) (M18 97 27).toNat op := by rw [pM20.1, show M18 97 27 = M18 97 27 by omega]
        have CM20_111 : M20 111 = ms (M18 111) (M18 97 27).toNat 0 := by rw [pM20.2.1, show M18 97 27 = M18 97 27 by omega]
        have tkM20 : TK M20 := TK.eq tkM18 eM20_97_12 eM20_97_13 eM20_97_14 eM20_97_15 eM20_97_16
        have ppM20 := pM20.2.2
        clear pM20
        refine g_iconst (pc' := 232) dX10_behindSum_231 rfl ?_
        refine g_ireturn dX10_behindSum_232 ?_
        exact ⟨iM20, fM20, q97_12_M20, q97_19_M20, ⟨by omega, by omega⟩, (PS.mk_ (q := 0) (SI.cmp hs0 siM18 stM18 sxM18 CM14_110 (by omega) (by omega) (fM180 110 (by decide)) (by omega) (by omega) CM20_110 CM20_111 (by omega) (by omega) (by omega) (by omega)) (HI.push siM18 hiM18 (by omega) CM20_108 CM20_109 CM20_110 CM20_111 (by omega) (by omega)) (SQ.push sqM18 CM20_110 (by omega) (by omega) (by omega) (by omega)) (by omega)), (LO.tr loM18 (LO.eq CM20_108 CM20_109)), tkM20, by omega, (mz_lt hbad (by omega) (by omega) (by omega))⟩
    · refine g_iconst (pc' := 206) dX10_behindSum_205 rfl ?_
      refine g_goto (tgt := 210) dX10_behindSum_206 rfl ?_
      refine g_callVv (pc' := 213) (As := [vi 1]) (b := 97) (S := []) dX10_behindSum_210 rfl m_X10_187 w_X10_must (c_X10_must X M hi 1 (by decide) htk) rfl ⟨_, _, _, rfl, rfl, rfl⟩ (by decide) (by decide) rfl (Nat.le_of_ble_eq_true rfl) (fun M22 q21 => ?_)
      obtain ⟨iM22, fM220, eM22_97_12, eM22_97_19, eM22_97_21, eM22_97_24, eM22_97_27, eM22_97_28, pM22⟩ := q21
      have fM22 : Fr (fun c => c = 97 ∨ (108 ≤ c ∧ c ≤ 111)) M M22 := Fr.tr Fr.rf fM220 fi_33
      have q97_12_M22 : (M22 97 12 = M 97 12) := eM22_97_12
      have q97_19_M22 : (M22 97 19 = M 97 19) := eM22_97_19
      have wM22_97_21 : M22 97 21 = M 97 21 := eM22_97_21
      have wM22_97_27 : M22 97 27 = M 97 27 := eM22_97_27
      have CM22_108 : M22 108 = M 108 := fM220 108 (by decide)
      have CM22_109 : M22 109 = M 109 := fM220 109 (by decide)
      have CM22_110 : M22 110 = M 110 := fM220 110 (by decide)
      have CM22_111 : M22 111 = M 111 := fM220 111 (by decide)
      obtain ⟨aM22p, bM22p, cM22p, kM22p⟩ := pM22
      have tkM22 : TK M22 := kM22p
      clear kM22p
      have tbM22 := tkM22.b
      have siM22 : SI M22 F0 := SI.nx hs0 CM22_110 CM22_111 (by omega) (by omega) (by omega) (by omega)
      have hiM22 := HI.nx hh0 CM22_108 CM22_109 CM22_110 CM22_111 (by omega) (by omega)
      have sqM22 : SQ M22 2 := SQ.nx sq2 CM22_110 (by omega) (by omega)
      have loM22 : LO M M22 F0 := LO.tr (LO.rf _ _) (LO.eq CM22_108 CM22_109)
      refine g_aload_n (pc' := 214) 1 dX10_behindSum_213 rfl rfl ?_
      refine g_getI (pc' := 217) dX10_behindSum_214 rfl f_X10_154 rfl rfl (fun v23 ev23 rv23 => ?_)
      refine g_if_ne (pc' := 220) (tgt := 231) rv23 dX10_behindSum_217 rfl rfl (fun c24 => ?_) (fun c24 => ?_)
      · refine g_iconst (pc' := 232) dX10_behindSum_231 rfl ?_
        refine g_ireturn dX10_behindSum_232 ?_
        exact ⟨iM22, fM22, q97_12_M22, q97_19_M22, ⟨by omega, by omega⟩, (PS.bad siM22 (by omega)), loM22, tkM22, by omega, (mz_lt hbad (by omega) (by omega) (by omega))⟩
      · refine g_aload_n (pc' := 221) 1 dX10_behindSum_220 rfl rfl ?_
        refine g_iconst (pc' := 222) dX10_behindSum_221 rfl ?_
        refine g_callVv (pc' := 225) (As := [vi 5]) (b := 97) (S := []) dX10_behindSum_222 rfl m_X10_254 w_X10_settle (c_X10_settle X M22 iM22 5 (by decide) F0 siM22 (by omega)) rfl ⟨_, _, _, rfl, rfl, rfl⟩ (by decide) (by decide) rfl (Nat.le_of_ble_eq_true rfl) (fun M26 q25 => ?_)
        obtain ⟨iM26, fM260, eM26_97_12, eM26_97_19, eM26_97_24, eM26_97_28, eM26_97_13, eM26_97_14, eM26_97_15, eM26_97_16, eM26_97_18, pM26⟩ := q25
        have fM26 : Fr (fun c => c = 97 ∨ (108 ≤ c ∧ c ≤ 111)) M M26 := Fr.tr fM22 fM260 fi_34
        have q97_12_M26 : (M26 97 12 = M 97 12) := eM26_97_12.trans q97_12_M22
        have q97_19_M26 : (M26 97 19 = M 97 19) := eM26_97_19.trans q97_19_M22
        have wM26_97_13 : M26 97 13 = M22 97 13 := eM26_97_13
        have wM26_97_14 : M26 97 14 = M22 97 14 := eM26_97_14
        have wM26_97_15 : M26 97 15 = M22 97 15 := eM26_97_15
        have wM26_97_18 : M26 97 18 = M22 97 18 := eM26_97_18
        have CM26_110 : M26 110 = M 110 := (fM260 110 (by decide)).trans CM22_110
        have CM26_111 : M26 111 = M 111 := (fM260 111 (by decide)).trans CM22_111
        have tkM26 : TK M26 := TK.eq tkM22 eM26_97_12 eM26_97_13 eM26_97_14 eM26_97_15 eM26_97_16
        obtain ⟨siM26, htM26, loM260, stM26, sxM26⟩ := pM26
        have spM26 := stM26.1
        have saM26 := siM26.ar
        have loM26 : LO M M26 F0 := LO.tr loM22 loM260
        have hiM26 : HI M26 F0 1 := htM26 hiM22
        have sqM26 : SQ M26 2 := SQ.nx sqM22 (fM260 110 (by decide)) (by omega) (by omega)
        refine g_aload_n (pc' := 226) 1 dX10_behindSum_225 rfl rfl ?_
        refine g_iload_n (pc' := 227) 0 dX10_behindSum_226 rfl rfl ?_
        refine g_iconst (pc' := 228) dX10_behindSum_227 rfl ?_
        refine g_callVv (pc' := 231) (As := [vi op, vi 0]) (b := 97) (S := []) dX10_behindSum_228 rfl m_X10_215 w_X10_push (c_X10_push X M26 iM26 op ⟨by omega, by omega⟩ 0 (by decide) (by omega)) rfl ⟨_, _, _, rfl, rfl, rfl⟩ (by decide) (by decide) rfl (Nat.le_of_ble_eq_true rfl) (fun M28 q27 => ?_)
        obtain ⟨iM28, fM280, eM28_97_12, eM28_97_19, eM28_97_21, eM28_97_24, eM28_97_28, eM28_97_13, eM28_97_14, eM28_97_15, eM28_97_16, eM28_97_18, pM28⟩ := q27
        have fM28 : Fr (fun c => c = 97 ∨ (108 ≤ c ∧ c ≤ 111)) M M28 := Fr.tr fM26 fM280 fi_35
        have q97_12_M28 : (M28 97 12 = M 97 12) := eM28_97_12.trans q97_12_M26
        have q97_19_M28 : (M28 97 19 = M 97 19) := eM28_97_19.trans q97_19_M26
        have wM28_97_13 : M28 97 13 = M26 97 13 := eM28_97_13
        have wM28_97_14 : M28 97 14 = M26 97 14 := eM28_97_14
        have wM28_97_15 : M28 97 15 = M26 97 15 := eM28_97_15
        have wM28_97_18 : M28 97 18 = M26 97 18 := eM28_97_18
        have wM28_97_21 : M28 97 21 = M26 97 21 := eM28_97_21
        have CM28_108 : M28 108 = M26 108 := fM280 108 (by decide)
        have CM28_109 : M28 109 = M26 109 := fM280 109 (by decide)
        have CM28_110 : M28 110 = ms (M26 110) (M26 97 27).toNat op := by rw [pM28.1, show M26 97 27 = M26 97 27 by omega]
        have CM28_111 : M28 111 = ms (M26 111) (M26 97 27).toNat 0 := by rw [pM28.2.1, show M26 97 27 = M26 97 27 by omega]
        have tkM28 : TK M28 := TK.eq tkM26 eM28_97_12 eM28_97_13 eM28_97_14 eM28_97_15 eM28_97_16
        have ppM28 := pM28.2.2
        clear pM28
        refine g_iconst (pc' := 232) dX10_behindSum_231 rfl ?_
        refine g_ireturn dX10_behindSum_232 ?_
        exact ⟨iM28, fM28, q97_12_M28, q97_19_M28, ⟨by omega, by omega⟩, (PS.mk_ (q := 0) (SI.cmp hs0 siM26 stM26 sxM26 CM22_110 (by omega) (by omega) (fM260 110 (by decide)) (by omega) (by omega) CM28_110 CM28_111 (by omega) (by omega) (by omega) (by omega)) (HI.push siM26 hiM26 (by omega) CM28_108 CM28_109 CM28_110 CM28_111 (by omega) (by omega)) (SQ.push sqM26 CM28_110 (by omega) (by omega) (by omega) (by omega)) (by omega)), (LO.tr loM26 (LO.eq CM28_108 CM28_109)), tkM28, by omega, (mz_lt hbad (by omega) (by omega) (by omega))⟩
set_option maxHeartbeats 4000000 in
set_option maxRecDepth 100000 in
theorem j_X10_behindSum_58 (X : Cx) (M : Mm) (hi : IM M) (a : Int) (ha : inI a) (F0 : Int) (hs0 : SI M F0) (hh0 : HI M F0 1) (hq0 : SQ M 3) (htk : TK M) (hbad : M 97 18 = 0) (op : Int) (hop : op = -1 ∨ (20 ≤ op ∧ op ≤ 23 ∧ M 97 15 = 3)) : G X 3 RX10 cX10_behindSum 4 (some .int) (Qi (fun r M1 => IM M1 ∧ Fr (fun c => c = 97 ∨ (108 ≤ c ∧ c ≤ 111)) M M1 ∧ M1 97 12 = M 97 12 ∧ M1 97 19 = M 97 19 ∧ ((0 ≤ r ∧ r ≤ 4) ∧ PS M1 F0 r ∧ LO M M1 F0 ∧ TK M1 ∧ M 97 13 ≤ M1 97 13 ∧ mz (M1 97 13) (M1 97 18) r < mz (M 97 13) (M 97 18) 3))) 58 [(2, vi op), (0, vr X 97), (1, vi a)] [] M := by
  have p12 := hi.2.2.2.1
  have sa0 := hs0.ar
  have tb0 := htk.b
  have lt0 := htk.lt
  refine g_iload_n (pc' := 59) 0 dX10_behindSum_58 rfl rfl ?_
  refine g_iconst (pc' := 60) dX10_behindSum_59 rfl ?_
  refine g_ic_eq (pc' := 63) (tgt := 83) ⟨by omega, by omega⟩ (by decide) dX10_behindSum_60 rfl rfl (fun c1 => ?_) (fun c1 => ?_)
  · refine g_aload_n (pc' := 84) 1 dX10_behindSum_83 rfl rfl ?_
    refine g_callVip (pc' := 87) (As := []) (b := 97) (S := []) dX10_behindSum_84 rfl m_X10_257 w_X10_inner (c_X10_inner X M hi F0 hs0) rfl ⟨_, _, _, rfl, rfl, rfl⟩ (by decide) (by decide) rfl (Nat.le_of_ble_eq_true rfl) (fun z3 q2 => ?_)
    refine g_istore_n (pc' := 88) (i := 3) (L' := [(3, vi z3), (2, vi op), (0, vr X 97), (1, vi a)]) dX10_behindSum_87 rfl rfl (by decide) rfl ?_
    refine g_iload_n (pc' := 89) 0 dX10_behindSum_88 rfl rfl ?_
    refine g_bipush (pc' := 91) (v := 31) dX10_behindSum_89 rfl (by decide) ?_
    refine g_ic_ne (pc' := 94) (tgt := 138) ⟨by omega, by omega⟩ (by decide) dX10_behindSum_91 rfl rfl (fun c4 => ?_) (fun c4 => ?_)
    · refine g_iload_n (pc' := 139) 0 dX10_behindSum_138 rfl rfl ?_
      refine g_iconst (pc' := 140) dX10_behindSum_139 rfl ?_
      refine g_ic_ne (pc' := 143) (tgt := 149) ⟨by omega, by omega⟩ (by decide) dX10_behindSum_140 rfl rfl (fun c5 => ?_) (fun c5 => ?_)
      · refine g_aload_n (pc' := 150) 2 dX10_behindSum_149 rfl rfl ?_
        refine g_callVip (pc' := 153) (As := []) (b := 97) (S := []) dX10_behindSum_150 rfl m_X10_260 w_X10_isCompared (c_X10_isCompared X M hi F0 hs0) rfl ⟨_, _, _, rfl, rfl, rfl⟩ (by decide) (by decide) rfl (Nat.le_of_ble_eq_true rfl) (fun z7 q6 => ?_)
        refine g_if_eq (pc' := 156) (tgt := 158) ⟨by omega, by omega⟩ dX10_behindSum_153 rfl rfl (fun c8 => ?_) (fun c8 => ?_)
        · refine g_aload_n (pc' := 159) 2 dX10_behindSum_158 rfl rfl ?_
          refine g_bipush (pc' := 161) (v := 60) dX10_behindSum_159 rfl (by decide) ?_
          refine g_callVip (pc' := 164) (As := [vi 60]) (b := 97) (S := []) dX10_behindSum_161 rfl m_X10_221 w_X10_isSign (c_X10_isSign X M hi 60 (by decide)) rfl ⟨_, _, _, rfl, rfl, rfl⟩ (by decide) (by decide) rfl (Nat.le_of_ble_eq_true rfl) (fun z10 q9 => ?_)
          refine g_if_eq (pc' := 167) (tgt := 172) ⟨by omega, by omega⟩ dX10_behindSum_164 rfl rfl (fun c11 => ?_) (fun c11 => ?_)
          · refine g_aload_n (pc' := 173) 2 dX10_behindSum_172 rfl rfl ?_
            refine g_bipush (pc' := 175) (v := 62) dX10_behindSum_173 rfl (by decide) ?_
            refine g_callVip (pc' := 178) (As := [vi 62]) (b := 97) (S := []) dX10_behindSum_175 rfl m_X10_221 w_X10_isSign (c_X10_isSign X M hi 62 (by decide)) rfl ⟨_, _, _, rfl, rfl, rfl⟩ (by decide) (by decide) rfl (Nat.le_of_ble_eq_true rfl) (fun z13 q12 => ?_)
            refine g_if_eq (pc' := 181) (tgt := 186) ⟨by omega, by omega⟩ dX10_behindSum_178 rfl rfl (fun c14 => ?_) (fun c14 => ?_)
            · refine g_bipush (pc' := 188) (v := 26) dX10_behindSum_186 rfl (by decide) ?_
              refine g_istore_n (pc' := 189) (i := 2) (L' := [(2, vi 26), (3, vi z3), (0, vr X 97), (1, vi a)]) dX10_behindSum_188 rfl rfl (by decide) rfl ?_
              refine g_sub [0, 2] rfl ?_
              exact j_X10_behindSum_189 X M hi a ha F0 hs0 hh0 hq0 htk hbad 26 (by omega) (by omega) (SQ.inn hq0 q2.1 (by omega) (by omega))
            · refine g_bipush (pc' := 183) (v := 25) dX10_behindSum_181 rfl (by decide) ?_
              refine g_goto (tgt := 188) dX10_behindSum_183 rfl ?_
              refine g_istore_n (pc' := 189) (i := 2) (L' := [(2, vi 25), (3, vi z3), (0, vr X 97), (1, vi a)]) dX10_behindSum_188 rfl rfl (by decide) rfl ?_
              refine g_sub [0, 2] rfl ?_
              exact j_X10_behindSum_189 X M hi a ha F0 hs0 hh0 hq0 htk hbad 25 (by omega) (by omega) (SQ.inn hq0 q2.1 (by omega) (by omega))
          · refine g_bipush (pc' := 169) (v := 24) dX10_behindSum_167 rfl (by decide) ?_
            refine g_goto (tgt := 188) dX10_behindSum_169 rfl ?_
            refine g_istore_n (pc' := 189) (i := 2) (L' := [(2, vi 24), (3, vi z3), (0, vr X 97), (1, vi a)]) dX10_behindSum_188 rfl rfl (by decide) rfl ?_
            refine g_sub [0, 2] rfl ?_
            exact j_X10_behindSum_189 X M hi a ha F0 hs0 hh0 hq0 htk hbad 24 (by omega) (by omega) (SQ.inn hq0 q2.1 (by omega) (by omega))
        · refine g_iconst (pc' := 157) dX10_behindSum_156 rfl ?_
          refine g_ireturn dX10_behindSum_157 ?_
          exact ⟨hi, Fr.rf, rfl, rfl, ⟨by omega, by omega⟩, (PS.mk_ hs0 hh0 (SQ.inn hq0 q2.1 (by omega) (by omega)) (by omega)), (LO.rf _ _), htk, by omega, (mz_lt hbad (by omega) (by omega) (by omega))⟩
      · refine g_iload_n (pc' := 144) 3 dX10_behindSum_143 rfl rfl ?_
        refine g_if_ne (pc' := 147) (tgt := 149) ha dX10_behindSum_144 rfl rfl (fun c15 => ?_) (fun c15 => ?_)
        · refine g_aload_n (pc' := 150) 2 dX10_behindSum_149 rfl rfl ?_
          refine g_callVip (pc' := 153) (As := []) (b := 97) (S := []) dX10_behindSum_150 rfl m_X10_260 w_X10_isCompared (c_X10_isCompared X M hi F0 hs0) rfl ⟨_, _, _, rfl, rfl, rfl⟩ (by decide) (by decide) rfl (Nat.le_of_ble_eq_true rfl) (fun z17 q16 => ?_)
          refine g_if_eq (pc' := 156) (tgt := 158) ⟨by omega, by omega⟩ dX10_behindSum_153 rfl rfl (fun c18 => ?_) (fun c18 => ?_)
          · refine g_aload_n (pc' := 159) 2 dX10_behindSum_158 rfl rfl ?_
            refine g_bipush (pc' := 161) (v := 60) dX10_behindSum_159 rfl (by decide) ?_
            refine g_callVip (pc' := 164) (As := [vi 60]) (b := 97) (S := []) dX10_behindSum_161 rfl m_X10_221 w_X10_isSign (c_X10_isSign X M hi 60 (by decide)) rfl ⟨_, _, _, rfl, rfl, rfl⟩ (by decide) (by decide) rfl (Nat.le_of_ble_eq_true rfl) (fun z20 q19 => ?_)
            refine g_if_eq (pc' := 167) (tgt := 172) ⟨by omega, by omega⟩ dX10_behindSum_164 rfl rfl (fun c21 => ?_) (fun c21 => ?_)
            · refine g_aload_n (pc' := 173) 2 dX10_behindSum_172 rfl rfl ?_
              refine g_bipush (pc' := 175) (v := 62) dX10_behindSum_173 rfl (by decide) ?_
              refine g_callVip (pc' := 178) (As := [vi 62]) (b := 97) (S := []) dX10_behindSum_175 rfl m_X10_221 w_X10_isSign (c_X10_isSign X M hi 62 (by decide)) rfl ⟨_, _, _, rfl, rfl, rfl⟩ (by decide) (by decide) rfl (Nat.le_of_ble_eq_true rfl) (fun z23 q22 => ?_)
              refine g_if_eq (pc' := 181) (tgt := 186) ⟨by omega, by omega⟩ dX10_behindSum_178 rfl rfl (fun c24 => ?_) (fun c24 => ?_)
              · refine g_bipush (pc' := 188) (v := 26) dX10_behindSum_186 rfl (by decide) ?_
                refine g_istore_n (pc' := 189) (i := 2) (L' := [(2, vi 26), (3, vi z3), (0, vr X 97), (1, vi a)]) dX10_behindSum_188 rfl rfl (by decide) rfl ?_
                refine g_sub [0, 2] rfl ?_
                exact j_X10_behindSum_189 X M hi a ha F0 hs0 hh0 hq0 htk hbad 26 (by omega) (by omega) (SQ.inn hq0 q2.1 (by omega) (by omega))
              · refine g_bipush (pc' := 183) (v := 25) dX10_behindSum_181 rfl (by decide) ?_
                refine g_goto (tgt := 188) dX10_behindSum_183 rfl ?_
                refine g_istore_n (pc' := 189) (i := 2) (L' := [(2, vi 25), (3, vi z3), (0, vr X 97), (1, vi a)]) dX10_behindSum_188 rfl rfl (by decide) rfl ?_
                refine g_sub [0, 2] rfl ?_
                exact j_X10_behindSum_189 X M hi a ha F0 hs0 hh0 hq0 htk hbad 25 (by omega) (by omega) (SQ.inn hq0 q2.1 (by omega) (by omega))
            · refine g_bipush (pc' := 169) (v := 24) dX10_behindSum_167 rfl (by decide) ?_
              refine g_goto (tgt := 188) dX10_behindSum_169 rfl ?_
              refine g_istore_n (pc' := 189) (i := 2) (L' := [(2, vi 24), (3, vi z3), (0, vr X 97), (1, vi a)]) dX10_behindSum_188 rfl rfl (by decide) rfl ?_
              refine g_sub [0, 2] rfl ?_
              exact j_X10_behindSum_189 X M hi a ha F0 hs0 hh0 hq0 htk hbad 24 (by omega) (by omega) (SQ.inn hq0 q2.1 (by omega) (by omega))
          · refine g_iconst (pc' := 157) dX10_behindSum_156 rfl ?_
            refine g_ireturn dX10_behindSum_157 ?_
            exact ⟨hi, Fr.rf, rfl, rfl, ⟨by omega, by omega⟩, (PS.mk_ hs0 hh0 (SQ.inn hq0 q2.1 (by omega) (by omega)) (by omega)), (LO.rf _ _), htk, by omega, (mz_lt hbad (by omega) (by omega) (by omega))⟩
        · refine g_iconst (pc' := 148) dX10_behindSum_147 rfl ?_
          refine g_ireturn dX10_behindSum_148 ?_
          exact ⟨hi, Fr.rf, rfl, rfl, ⟨by omega, by omega⟩, (PS.mk_ hs0 hh0 (SQ.inn hq0 q2.1 (by omega) (by omega)) (by omega)), (LO.rf _ _), htk, by omega, (mz_lt hbad (by omega) (by omega) (by omega))⟩
    · refine g_aload_n (pc' := 95) 2 dX10_behindSum_94 rfl rfl ?_
      refine g_aload_n (pc' := 96) 2 dX10_behindSum_95 rfl rfl ?_
      refine g_bipush (pc' := 98) (v := 93) dX10_behindSum_96 rfl (by decide) ?_
      refine g_callVip (pc' := 101) (As := [vi 93]) (b := 97) (S := [vr X 97]) dX10_behindSum_98 rfl m_X10_221 w_X10_isSign (c_X10_isSign X M hi 93 (by decide)) rfl ⟨_, _, _, rfl, rfl, rfl⟩ (by decide) (by decide) rfl (Nat.le_of_ble_eq_true rfl) (fun z26 q25 => ?_)
      refine g_callVv (pc' := 104) (As := [vi z26]) (b := 97) (S := []) dX10_behindSum_101 rfl m_X10_187 w_X10_must (c_X10_must X M hi z26 ⟨by omega, by omega⟩ htk) rfl ⟨_, _, _, rfl, rfl, rfl⟩ (by decide) (by decide) rfl (Nat.le_of_ble_eq_true rfl) (fun M28 q27 => ?_)
      obtain ⟨iM28, fM280, eM28_97_12, eM28_97_19, eM28_97_21, eM28_97_24, eM28_97_27, eM28_97_28, pM28⟩ := q27
      have fM28 : Fr (fun c => c = 97 ∨ (108 ≤ c ∧ c ≤ 111)) M M28 := Fr.tr Fr.rf fM280 fi_33
      have q97_12_M28 : (M28 97 12 = M 97 12) := eM28_97_12
      have q97_19_M28 : (M28 97 19 = M 97 19) := eM28_97_19
      have wM28_97_21 : M28 97 21 = M 97 21 := eM28_97_21
      have wM28_97_27 : M28 97 27 = M 97 27 := eM28_97_27
      have CM28_108 : M28 108 = M 108 := fM280 108 (by decide)
      have CM28_109 : M28 109 = M 109 := fM280 109 (by decide)
      have CM28_110 : M28 110 = M 110 := fM280 110 (by decide)
      have CM28_111 : M28 111 = M 111 := fM280 111 (by decide)
      obtain ⟨aM28p, bM28p, cM28p, kM28p⟩ := pM28
      have tkM28 : TK M28 := kM28p
      clear kM28p
      have tbM28 := tkM28.b
      have siM28 : SI M28 F0 := SI.nx hs0 CM28_110 CM28_111 (by omega) (by omega) (by omega) (by omega)
      have hiM28 := HI.nx hh0 CM28_108 CM28_109 CM28_110 CM28_111 (by omega) (by omega)
      have sqM28 : SQ M28 3 := SQ.nx hq0 CM28_110 (by omega) (by omega)
      have loM28 : LO M M28 F0 := LO.tr (LO.rf _ _) (LO.eq CM28_108 CM28_109)
      refine g_aload_n (pc' := 105) 2 dX10_behindSum_104 rfl rfl ?_
      refine g_getI (pc' := 108) dX10_behindSum_105 rfl f_X10_154 rfl rfl (fun v29 ev29 rv29 => ?_)
      refine g_if_ne (pc' := 111) (tgt := 136) rv29 dX10_behindSum_108 rfl rfl (fun c30 => ?_) (fun c30 => ?_)
      · refine g_iconst (pc' := 137) dX10_behindSum_136 rfl ?_
        refine g_ireturn dX10_behindSum_137 ?_
        exact ⟨iM28, fM28, q97_12_M28, q97_19_M28, ⟨by omega, by omega⟩, (PS.bad siM28 (by omega)), loM28, tkM28, by omega, (mz_lt hbad (by omega) (by omega) (by omega))⟩
      · refine g_aload_n (pc' := 112) 2 dX10_behindSum_111 rfl rfl ?_
        refine g_iconst (pc' := 113) dX10_behindSum_112 rfl ?_
        refine g_callVv (pc' := 116) (As := [vi 5]) (b := 97) (S := []) dX10_behindSum_113 rfl m_X10_254 w_X10_settle (c_X10_settle X M28 iM28 5 (by decide) F0 siM28 (by omega)) rfl ⟨_, _, _, rfl, rfl, rfl⟩ (by decide) (by decide) rfl (Nat.le_of_ble_eq_true rfl) (fun M32 q31 => ?_)
        obtain ⟨iM32, fM320, eM32_97_12, eM32_97_19, eM32_97_24, eM32_97_28, eM32_97_13, eM32_97_14, eM32_97_15, eM32_97_16, eM32_97_18, pM32⟩ := q31
        have fM32 : Fr (fun c => c = 97 ∨ (108 ≤ c ∧ c ≤ 111)) M M32 := Fr.tr fM28 fM320 fi_34
        have q97_12_M32 : (M32 97 12 = M 97 12) := eM32_97_12.trans q97_12_M28
        have q97_19_M32 : (M32 97 19 = M 97 19) := eM32_97_19.trans q97_19_M28
        have wM32_97_13 : M32 97 13 = M28 97 13 := eM32_97_13
        have wM32_97_14 : M32 97 14 = M28 97 14 := eM32_97_14
        have wM32_97_15 : M32 97 15 = M28 97 15 := eM32_97_15
        have wM32_97_18 : M32 97 18 = M28 97 18 := eM32_97_18
        have CM32_110 : M32 110 = M 110 := (fM320 110 (by decide)).trans CM28_110
        have CM32_111 : M32 111 = M 111 := (fM320 111 (by decide)).trans CM28_111
        have tkM32 : TK M32 := TK.eq tkM28 eM32_97_12 eM32_97_13 eM32_97_14 eM32_97_15 eM32_97_16
        obtain ⟨siM32, htM32, loM320, stM32, sxM32⟩ := pM32
        have spM32 := stM32.1
        have saM32 := siM32.ar
        have loM32 : LO M M32 F0 := LO.tr loM28 loM320
        have hiM32 : HI M32 F0 1 := htM32 hiM28
        have sqM32 : SQ M32 3 := SQ.nx sqM28 (fM320 110 (by decide)) (by omega) (by omega)
        refine g_aload_n (pc' := 117) 2 dX10_behindSum_116 rfl rfl ?_
        refine g_dup (pc' := 118) dX10_behindSum_117 rfl rfl ?_
        refine g_getI (pc' := 121) dX10_behindSum_118 rfl f_X10_194 rfl rfl (fun v33 ev33 rv33 => ?_)
        refine g_iconst (pc' := 122) dX10_behindSum_121 rfl ?_
        refine g_isub (pc' := 123) dX10_behindSum_122 rfl ?_
        refine g_putI (pc' := 126) dX10_behindSum_123 rfl p_X10_194 rfl rfl ⟨by omega, by omega⟩ (fun M34 hM34 => ?_)
        have iM34 : IM M34 := IM.wr iM32 hM34 (by unfold okv; first | decide | omega)
        have fM34 : Fr (fun c => c = 97 ∨ (108 ≤ c ∧ c ≤ 111)) M M34 := Fr.wr fM32 hM34 (by first | decide | omega | (dsimp only; omega))
        have q97_12_M34 : (M34 97 12 = M 97 12) := (show M34 97 12 = M32 97 12 by rw [hM34]; exact mu_ne _ _ (by first | decide | omega)).trans q97_12_M32
        have q97_19_M34 : (M34 97 19 = M 97 19) := (show M34 97 19 = M32 97 19 by rw [hM34]; exact mu_ne _ _ (by first | decide | omega)).trans q97_19_M32
        have wM34_97_13 : M34 97 13 = M32 97 13 := by rw [hM34]; exact mu_ne _ _ (by first | decide | omega)
        have wM34_97_14 : M34 97 14 = M32 97 14 := by rw [hM34]; exact mu_ne _ _ (by first | decide | omega)
        have wM34_97_15 : M34 97 15 = M32 97 15 := by rw [hM34]; exact mu_ne _ _ (by first | decide | omega)
        have wM34_97_18 : M34 97 18 = M32 97 18 := by rw [hM34]; exact mu_ne _ _ (by first | decide | omega)
        have wM34_97_21 : M34 97 21 = M32 97 21 := by rw [hM34]; exact mu_ne _ _ (by first | decide | omega)
        have xM34_97_27 : M34 97 27 = v33 - 1 := by rw [hM34]; exact mu_at _ _ _ _
        have CM34_108 : M34 108 = M32 108 := by rw [hM34, mu_cell _ _ (by decide)]
        have CM34_109 : M34 109 = M32 109 := by rw [hM34, mu_cell _ _ (by decide)]
        have CM34_110 : M34 110 = M32 110 := by rw [hM34, mu_cell _ _ (by decide)]
        have CM34_111 : M34 111 = M32 111 := by rw [hM34, mu_cell _ _ (by decide)]
        have tkM34 : TK M34 := TK.eq tkM32 (show M34 97 12 = M32 97 12 by rw [hM34]; exact mu_ne _ _ (by first | decide | omega)) (show M34 97 13 = M32 97 13 by rw [hM34]; exact mu_ne _ _ (by first | decide | omega)) (show M34 97 14 = M32 97 14 by rw [hM34]; exact mu_ne _ _ (by first | decide | omega)) (show M34 97 15 = M32 97 15 by rw [hM34]; exact mu_ne _ _ (by first | decide | omega)) (show M34 97 16 = M32 97 16 by rw [hM34]; exact mu_ne _ _ (by first | decide | omega))
        refine g_aload_n (pc' := 127) 2 dX10_behindSum_126 rfl rfl ?_
        refine g_dup (pc' := 128) dX10_behindSum_127 rfl rfl ?_
        refine g_getI (pc' := 131) dX10_behindSum_128 rfl f_X10_212 rfl rfl (fun v35 ev35 rv35 => ?_)
        refine g_iconst (pc' := 132) dX10_behindSum_131 rfl ?_
        refine g_isub (pc' := 133) dX10_behindSum_132 rfl ?_
        refine g_nrmI (fun n36 rn36 en36 => ?_)
        have bn36 : (-2147483648 ≤ v35 - 1 ∧ v35 - 1 ≤ 2147483647) → n36 = v35 - 1 := fun h => en36.trans (bm32 h)
        refine g_putI (pc' := 136) dX10_behindSum_133 rfl p_X10_212 rfl rfl rn36 (fun M37 hM37 => ?_)
        have iM37 : IM M37 := IM.wr iM34 hM37 (by unfold okv; first | decide | omega)
        have fM37 : Fr (fun c => c = 97 ∨ (108 ≤ c ∧ c ≤ 111)) M M37 := Fr.wr fM34 hM37 (by first | decide | omega | (dsimp only; omega))
        have q97_12_M37 : (M37 97 12 = M 97 12) := (show M37 97 12 = M34 97 12 by rw [hM37]; exact mu_ne _ _ (by first | decide | omega)).trans q97_12_M34
        have q97_19_M37 : (M37 97 19 = M 97 19) := (show M37 97 19 = M34 97 19 by rw [hM37]; exact mu_ne _ _ (by first | decide | omega)).trans q97_19_M34
        have wM37_97_13 : M37 97 13 = M34 97 13 := by rw [hM37]; exact mu_ne _ _ (by first | decide | omega)
        have wM37_97_14 : M37 97 14 = M34 97 14 := by rw [hM37]; exact mu_ne _ _ (by first | decide | omega)
        have wM37_97_15 : M37 97 15 = M34 97 15 := by rw [hM37]; exact mu_ne _ _ (by first | decide | omega)
        have wM37_97_18 : M37 97 18 = M34 97 18 := by rw [hM37]; exact mu_ne _ _ (by first | decide | omega)
        have wM37_97_21 : M37 97 21 = M34 97 21 := by rw [hM37]; exact mu_ne _ _ (by first | decide | omega)
        have wM37_97_27 : M37 97 27 = M34 97 27 := by rw [hM37]; exact mu_ne _ _ (by first | decide | omega)
        have xM37_97_27 : M37 97 27 = v33 - 1 := (show M37 97 27 = M34 97 27 by rw [hM37]; exact mu_ne _ _ (by first | decide | omega)).trans xM34_97_27
        have xM37_97_28 : M37 97 28 = n36 := by rw [hM37]; exact mu_at _ _ _ _
        have CM37_108 : M37 108 = M32 108 := by rw [hM37, mu_cell _ _ (by decide), CM34_108]
        have CM37_109 : M37 109 = M32 109 := by rw [hM37, mu_cell _ _ (by decide), CM34_109]
        have CM37_110 : M37 110 = M32 110 := by rw [hM37, mu_cell _ _ (by decide), CM34_110]
        have CM37_111 : M37 111 = M32 111 := by rw [hM37, mu_cell _ _ (by decide), CM34_111]
        have tkM37 : TK M37 := TK.eq tkM34 (show M37 97 12 = M34 97 12 by rw [hM37]; exact mu_ne _ _ (by first | decide | omega)) (show M37 97 13 = M34 97 13 by rw [hM37]; exact mu_ne _ _ (by first | decide | omega)) (show M37 97 14 = M34 97 14 by rw [hM37]; exact mu_ne _ _ (by first | decide | omega)) (show M37 97 15 = M34 97 15 by rw [hM37]; exact mu_ne _ _ (by first | decide | omega)) (show M37 97 16 = M34 97 16 by rw [hM37]; exact mu_ne _ _ (by first | decide | omega))
        have inM37 := INN.nx q2.1 (show _ = 31 by omega) CM28_110 (show M28 97 27 = M 97 27 by omega)
        have drM37 := STP.sq stM32 sqM28 inM37
        have dbM37 : 30 ≤ M32 110 (M32 97 27 - 1).toNat := by rw [fM320 110 (by decide)]; omega
        have siM37 : SI M37 F0 := SI.drop siM32 (by omega) (by omega) CM37_110 CM37_111 (by omega) (by omega)
        have hiM37 : HI M37 F0 1 := HI.drop hiM32 (by omega) dbM37 CM37_108 CM37_109 CM37_110 CM37_111 (by omega) (by omega)
        have sqM37 : SQ M37 3 := SQ.nx sqM32 CM37_110 (by omega) (by omega)
        have loM37 : LO M M37 F0 := LO.tr loM32 (LO.eq CM37_108 CM37_109)
        refine g_iconst (pc' := 137) dX10_behindSum_136 rfl ?_
        refine g_ireturn dX10_behindSum_137 ?_
        exact ⟨iM37, fM37, q97_12_M37, q97_19_M37, ⟨by omega, by omega⟩, (PS.mk_ siM37 hiM37 sqM37 (by omega)), loM37, tkM37, by omega, (mz_lt hbad (by omega) (by omega) (by omega))⟩
  · refine g_aload_n (pc' := 64) 1 dX10_behindSum_63 rfl rfl ?_
    refine g_iload_n (pc' := 65) 0 dX10_behindSum_64 rfl rfl ?_
    refine g_callSip (pc' := 68) (As := [vi op]) (S := [vr X 97]) dX10_behindSum_65 rfl m_X10_197 w_X10_binds (c_X10_binds X M op ⟨by omega, by omega⟩) rfl (by decide) (by decide) rfl (Nat.le_of_ble_eq_true rfl) (fun z39 q38 => ?_)
    have bh0 := bnd_hi (x := op) (by omega)
    refine g_callVv (pc' := 71) (As := [vi z39]) (b := 97) (S := []) dX10_behindSum_68 rfl m_X10_254 w_X10_settle (c_X10_settle X M hi z39 ⟨by omega, by omega⟩ F0 hs0 (by omega)) rfl ⟨_, _, _, rfl, rfl, rfl⟩ (by decide) (by decide) rfl (Nat.le_of_ble_eq_true rfl) (fun M41 q40 => ?_)
    obtain ⟨iM41, fM410, eM41_97_12, eM41_97_19, eM41_97_24, eM41_97_28, eM41_97_13, eM41_97_14, eM41_97_15, eM41_97_16, eM41_97_18, pM41⟩ := q40
    have fM41 : Fr (fun c => c = 97 ∨ (108 ≤ c ∧ c ≤ 111)) M M41 := Fr.tr Fr.rf fM410 fi_34
    have q97_12_M41 : (M41 97 12 = M 97 12) := eM41_97_12
    have q97_19_M41 : (M41 97 19 = M 97 19) := eM41_97_19
    have wM41_97_13 : M41 97 13 = M 97 13 := eM41_97_13
    have wM41_97_14 : M41 97 14 = M 97 14 := eM41_97_14
    have wM41_97_15 : M41 97 15 = M 97 15 := eM41_97_15
    have wM41_97_18 : M41 97 18 = M 97 18 := eM41_97_18
    have CM41_110 : M41 110 = M 110 := fM410 110 (by decide)
    have CM41_111 : M41 111 = M 111 := fM410 111 (by decide)
    have tkM41 : TK M41 := TK.eq htk eM41_97_12 eM41_97_13 eM41_97_14 eM41_97_15 eM41_97_16
    obtain ⟨siM41, htM41, loM410, stM41, sxM41⟩ := pM41
    have spM41 := stM41.1
    have saM41 := siM41.ar
    have loM41 : LO M M41 F0 := LO.tr (LO.rf _ _) loM410
    have hiM41 : HI M41 F0 1 := htM41 hh0
    have sqM41 : SQ M41 3 := SQ.nx hq0 (fM410 110 (by decide)) (by omega) (by omega)
    refine g_aload_n (pc' := 72) 1 dX10_behindSum_71 rfl rfl ?_
    refine g_iload_n (pc' := 73) 0 dX10_behindSum_72 rfl rfl ?_
    refine g_iconst (pc' := 74) dX10_behindSum_73 rfl ?_
    refine g_callVv (pc' := 77) (As := [vi op, vi 0]) (b := 97) (S := []) dX10_behindSum_74 rfl m_X10_215 w_X10_push (c_X10_push X M41 iM41 op ⟨by omega, by omega⟩ 0 (by decide) (by omega)) rfl ⟨_, _, _, rfl, rfl, rfl⟩ (by decide) (by decide) rfl (Nat.le_of_ble_eq_true rfl) (fun M43 q42 => ?_)
    obtain ⟨iM43, fM430, eM43_97_12, eM43_97_19, eM43_97_21, eM43_97_24, eM43_97_28, eM43_97_13, eM43_97_14, eM43_97_15, eM43_97_16, eM43_97_18, pM43⟩ := q42
    have fM43 : Fr (fun c => c = 97 ∨ (108 ≤ c ∧ c ≤ 111)) M M43 := Fr.tr fM41 fM430 fi_35
    have q97_12_M43 : (M43 97 12 = M 97 12) := eM43_97_12.trans q97_12_M41
    have q97_19_M43 : (M43 97 19 = M 97 19) := eM43_97_19.trans q97_19_M41
    have wM43_97_13 : M43 97 13 = M41 97 13 := eM43_97_13
    have wM43_97_14 : M43 97 14 = M41 97 14 := eM43_97_14
    have wM43_97_15 : M43 97 15 = M41 97 15 := eM43_97_15
    have wM43_97_18 : M43 97 18 = M41 97 18 := eM43_97_18
    have wM43_97_21 : M43 97 21 = M41 97 21 := eM43_97_21
    have CM43_108 : M43 108 = M41 108 := fM430 108 (by decide)
    have CM43_109 : M43 109 = M41 109 := fM430 109 (by decide)
    have CM43_110 : M43 110 = ms (M41 110) (M41 97 27).toNat op := by rw [pM43.1, show M41 97 27 = M41 97 27 by omega]
    have CM43_111 : M43 111 = ms (M41 111) (M41 97 27).toNat 0 := by rw [pM43.2.1, show M41 97 27 = M41 97 27 by omega]
    have tkM43 : TK M43 := TK.eq tkM41 eM43_97_12 eM43_97_13 eM43_97_14 eM43_97_15 eM43_97_16
    have ppM43 := pM43.2.2
    clear pM43
    refine g_aload_n (pc' := 78) 1 dX10_behindSum_77 rfl rfl ?_
    refine g_callVv (pc' := 81) (As := []) (b := 97) (S := []) dX10_behindSum_78 rfl m_X10_158 w_X10_next (c_X10_next X M43 iM43 (by omega)) rfl ⟨_, _, _, rfl, rfl, rfl⟩ (by decide) (by decide) rfl (Nat.le_of_ble_eq_true rfl) (fun M45 q44 => ?_)
    obtain ⟨iM45, fM450, eM45_97_12, eM45_97_19, eM45_97_21, eM45_97_24, eM45_97_27, eM45_97_28, eM45_97_18, pM45⟩ := q44
    have fM45 : Fr (fun c => c = 97 ∨ (108 ≤ c ∧ c ≤ 111)) M M45 := Fr.tr fM43 fM450 fi_33
    have q97_12_M45 : (M45 97 12 = M 97 12) := eM45_97_12.trans q97_12_M43
    have q97_19_M45 : (M45 97 19 = M 97 19) := eM45_97_19.trans q97_19_M43
    have wM45_97_18 : M45 97 18 = M43 97 18 := eM45_97_18
    have wM45_97_21 : M45 97 21 = M43 97 21 := eM45_97_21
    have wM45_97_27 : M45 97 27 = M43 97 27 := eM45_97_27
    have CM45_108 : M45 108 = M41 108 := (fM450 108 (by decide)).trans CM43_108
    have CM45_109 : M45 109 = M41 109 := (fM450 109 (by decide)).trans CM43_109
    have CM45_110 : M45 110 = ms (M41 110) (M41 97 27).toNat op := (fM450 110 (by decide)).trans CM43_110
    have CM45_111 : M45 111 = ms (M41 111) (M41 97 27).toNat 0 := (fM450 111 (by decide)).trans CM43_111
    obtain ⟨aM45p, kM45p⟩ := pM45
    have tkM45 : TK M45 := kM45p
    clear kM45p
    have tbM45 := tkM45.b
    refine g_iconst (pc' := 82) dX10_behindSum_81 rfl ?_
    refine g_ireturn dX10_behindSum_82 ?_
    exact ⟨iM45, fM45, q97_12_M45, q97_19_M45, ⟨by omega, by omega⟩, (PS.mk_ (q := 0) (SI.push siM41 (by omega) (by omega) CM45_110 CM45_111 (by omega) (by omega) (by omega) (by omega)) (HI.push siM41 hiM41 (by omega) CM45_108 CM45_109 CM45_110 CM45_111 (by omega) (by omega)) (SQ.push sqM41 CM45_110 (by omega) (by omega) (by omega) (by omega)) (by omega)), (LO.tr loM41 (LO.eq CM45_108 CM45_109)), tkM45, by omega, (mz_lt hbad (by omega) (by omega) (by omega))⟩
set_option maxHeartbeats 4000000 in
set_option maxRecDepth 100000 in
theorem c_X10_behindSum (X : Cx) (M : Mm) (hi : IM M) (a : Int) (ha : inI a) (F0 : Int) (hs0 : SI M F0) (hh0 : HI M F0 1) (hq0 : SQ M 3) (htk : TK M) (hbad : M 97 18 = 0) : Con X 3 yX10_behindSum cX10_behindSum 4 (some .int) [vr X 97, vi a] M (Qi (fun r M1 => IM M1 ∧ Fr (fun c => c = 97 ∨ (108 ≤ c ∧ c ≤ 111)) M M1 ∧ M1 97 12 = M 97 12 ∧ M1 97 19 = M 97 19 ∧ ((0 ≤ r ∧ r ≤ 4) ∧ PS M1 F0 r ∧ LO M M1 F0 ∧ TK M1 ∧ M 97 13 ≤ M1 97 13 ∧ mz (M1 97 13) (M1 97 18) r < mz (M 97 13) (M 97 18) 3))) := by
  refine Con.ofG rfl (Nat.le_of_ble_eq_true rfl) ?_
  show G X 3 RX10 cX10_behindSum 4 (some .int) (Qi (fun r M1 => IM M1 ∧ Fr (fun c => c = 97 ∨ (108 ≤ c ∧ c ≤ 111)) M M1 ∧ M1 97 12 = M 97 12 ∧ M1 97 19 = M 97 19 ∧ ((0 ≤ r ∧ r ≤ 4) ∧ PS M1 F0 r ∧ LO M M1 F0 ∧ TK M1 ∧ M 97 13 ≤ M1 97 13 ∧ mz (M1 97 13) (M1 97 18) r < mz (M 97 13) (M 97 18) 3))) 0 [(0, vr X 97), (1, vi a)] [] M
  have p12 := hi.2.2.2.1
  have sa0 := hs0.ar
  have tb0 := htk.b
  have lt0 := htk.lt
  refine g_aload_n (pc' := 1) 0 dX10_behindSum_0 rfl rfl ?_
  refine g_bipush (pc' := 3) (v := 43) dX10_behindSum_1 rfl (by decide) ?_
  refine g_callVip (pc' := 6) (As := [vi 43]) (b := 97) (S := []) dX10_behindSum_3 rfl m_X10_221 w_X10_isSign (c_X10_isSign X M hi 43 (by decide)) rfl ⟨_, _, _, rfl, rfl, rfl⟩ (by decide) (by decide) rfl (Nat.le_of_ble_eq_true rfl) (fun z2 q1 => ?_)
  refine g_if_eq (pc' := 9) (tgt := 14) ⟨by omega, by omega⟩ dX10_behindSum_6 rfl rfl (fun c3 => ?_) (fun c3 => ?_)
  · refine g_aload_n (pc' := 15) 0 dX10_behindSum_14 rfl rfl ?_
    refine g_bipush (pc' := 17) (v := 45) dX10_behindSum_15 rfl (by decide) ?_
    refine g_callVip (pc' := 20) (As := [vi 45]) (b := 97) (S := []) dX10_behindSum_17 rfl m_X10_221 w_X10_isSign (c_X10_isSign X M hi 45 (by decide)) rfl ⟨_, _, _, rfl, rfl, rfl⟩ (by decide) (by decide) rfl (Nat.le_of_ble_eq_true rfl) (fun z5 q4 => ?_)
    refine g_if_eq (pc' := 23) (tgt := 28) ⟨by omega, by omega⟩ dX10_behindSum_20 rfl rfl (fun c6 => ?_) (fun c6 => ?_)
    · refine g_aload_n (pc' := 29) 0 dX10_behindSum_28 rfl rfl ?_
      refine g_bipush (pc' := 31) (v := 42) dX10_behindSum_29 rfl (by decide) ?_
      refine g_callVip (pc' := 34) (As := [vi 42]) (b := 97) (S := []) dX10_behindSum_31 rfl m_X10_221 w_X10_isSign (c_X10_isSign X M hi 42 (by decide)) rfl ⟨_, _, _, rfl, rfl, rfl⟩ (by decide) (by decide) rfl (Nat.le_of_ble_eq_true rfl) (fun z8 q7 => ?_)
      refine g_if_eq (pc' := 37) (tgt := 42) ⟨by omega, by omega⟩ dX10_behindSum_34 rfl rfl (fun c9 => ?_) (fun c9 => ?_)
      · refine g_aload_n (pc' := 43) 0 dX10_behindSum_42 rfl rfl ?_
        refine g_bipush (pc' := 45) (v := 47) dX10_behindSum_43 rfl (by decide) ?_
        refine g_callVip (pc' := 48) (As := [vi 47]) (b := 97) (S := []) dX10_behindSum_45 rfl m_X10_221 w_X10_isSign (c_X10_isSign X M hi 47 (by decide)) rfl ⟨_, _, _, rfl, rfl, rfl⟩ (by decide) (by decide) rfl (Nat.le_of_ble_eq_true rfl) (fun z11 q10 => ?_)
        refine g_if_eq (pc' := 51) (tgt := 56) ⟨by omega, by omega⟩ dX10_behindSum_48 rfl rfl (fun c12 => ?_) (fun c12 => ?_)
        · refine g_iconst (pc' := 57) dX10_behindSum_56 rfl ?_
          refine g_istore_n (pc' := 58) (i := 2) (L' := [(2, vi (-1)), (0, vr X 97), (1, vi a)]) dX10_behindSum_57 rfl rfl (by decide) rfl ?_
          refine g_sub [0, 1, 2] rfl ?_
          exact j_X10_behindSum_58 X M hi a ha F0 hs0 hh0 hq0 htk hbad (-1) (by omega)
        · refine g_bipush (pc' := 53) (v := 23) dX10_behindSum_51 rfl (by decide) ?_
          refine g_goto (tgt := 57) dX10_behindSum_53 rfl ?_
          refine g_istore_n (pc' := 58) (i := 2) (L' := [(2, vi 23), (0, vr X 97), (1, vi a)]) dX10_behindSum_57 rfl rfl (by decide) rfl ?_
          refine g_sub [0, 1, 2] rfl ?_
          exact j_X10_behindSum_58 X M hi a ha F0 hs0 hh0 hq0 htk hbad 23 (by omega)
      · refine g_bipush (pc' := 39) (v := 22) dX10_behindSum_37 rfl (by decide) ?_
        refine g_goto (tgt := 57) dX10_behindSum_39 rfl ?_
        refine g_istore_n (pc' := 58) (i := 2) (L' := [(2, vi 22), (0, vr X 97), (1, vi a)]) dX10_behindSum_57 rfl rfl (by decide) rfl ?_
        refine g_sub [0, 1, 2] rfl ?_
        exact j_X10_behindSum_58 X M hi a ha F0 hs0 hh0 hq0 htk hbad 22 (by omega)
    · refine g_bipush (pc' := 25) (v := 21) dX10_behindSum_23 rfl (by decide) ?_
      refine g_goto (tgt := 57) dX10_behindSum_25 rfl ?_
      refine g_istore_n (pc' := 58) (i := 2) (L' := [(2, vi 21), (0, vr X 97), (1, vi a)]) dX10_behindSum_57 rfl rfl (by decide) rfl ?_
      refine g_sub [0, 1, 2] rfl ?_
      exact j_X10_behindSum_58 X M hi a ha F0 hs0 hh0 hq0 htk hbad 21 (by omega)
  · refine g_bipush (pc' := 11) (v := 20) dX10_behindSum_9 rfl (by decide) ?_
    refine g_goto (tgt := 57) dX10_behindSum_11 rfl ?_
    refine g_istore_n (pc' := 58) (i := 2) (L' := [(2, vi 20), (0, vr X 97), (1, vi a)]) dX10_behindSum_57 rfl rfl (by decide) rfl ?_
    refine g_sub [0, 1, 2] rfl ?_
    exact j_X10_behindSum_58 X M hi a ha F0 hs0 hh0 hq0 htk hbad 20 (by omega)
set_option maxHeartbeats 4000000 in
set_option maxRecDepth 100000 in
theorem j_X10_behindTest_22 (X : Cx) (M : Mm) (hi : IM M) (F0 : Int) (hs0 : SI M F0) (hh0 : HI M F0 1) (hq0 : SQ M 2) (htk : TK M) (hbad : M 97 18 = 0) (an : Int) (han : an = 0 ∨ an = 1) (hso : M 97 15 = 1) : G X 3 RX10 cX10_behindTest 2 (some .int) (Qi (fun r M1 => IM M1 ∧ Fr (fun c => c = 97 ∨ (108 ≤ c ∧ c ≤ 111)) M M1 ∧ M1 97 12 = M 97 12 ∧ M1 97 19 = M 97 19 ∧ ((0 ≤ r ∧ r ≤ 4) ∧ PS M1 F0 r ∧ LO M M1 F0 ∧ TK M1 ∧ M 97 13 ≤ M1 97 13 ∧ mz (M1 97 13) (M1 97 18) r < mz (M 97 13) (M 97 18) 2))) 22 [(1, vi an), (0, vr X 97)] [] M := by
  have p12 := hi.2.2.2.1
  have sa0 := hs0.ar
  have tb0 := htk.b
  have lt0 := htk.lt
  rcases (show an = 0 ∨ an = 1 by omega) with rfl | rfl
  · refine g_aload_n (pc' := 23) 1 dX10_behindTest_22 rfl rfl ?_
    refine g_iload_n (pc' := 24) 0 dX10_behindTest_23 rfl rfl ?_
    refine g_if_eq (pc' := 27) (tgt := 31) (by decide) dX10_behindTest_24 rfl rfl (fun c1 => ?_) (fun c1 => ?_)
    · refine g_iconst (pc' := 32) dX10_behindTest_31 rfl ?_
      refine g_callVv (pc' := 35) (As := [vi 1]) (b := 97) (S := []) dX10_behindTest_32 rfl m_X10_254 w_X10_settle (c_X10_settle X M hi 1 (by decide) F0 hs0 (by omega)) rfl ⟨_, _, _, rfl, rfl, rfl⟩ (by decide) (by decide) rfl (Nat.le_of_ble_eq_true rfl) (fun M3 q2 => ?_)
      obtain ⟨iM3, fM30, eM3_97_12, eM3_97_19, eM3_97_24, eM3_97_28, eM3_97_13, eM3_97_14, eM3_97_15, eM3_97_16, eM3_97_18, pM3⟩ := q2
      have fM3 : Fr (fun c => c = 97 ∨ (108 ≤ c ∧ c ≤ 111)) M M3 := Fr.tr Fr.rf fM30 fi_34
      have q97_12_M3 : (M3 97 12 = M 97 12) := eM3_97_12
      have q97_19_M3 : (M3 97 19 = M 97 19) := eM3_97_19
      have wM3_97_13 : M3 97 13 = M 97 13 := eM3_97_13
      have wM3_97_14 : M3 97 14 = M 97 14 := eM3_97_14
      have wM3_97_15 : M3 97 15 = M 97 15 := eM3_97_15
      have wM3_97_18 : M3 97 18 = M 97 18 := eM3_97_18
      have CM3_110 : M3 110 = M 110 := fM30 110 (by decide)
      have CM3_111 : M3 111 = M 111 := fM30 111 (by decide)
      have tkM3 : TK M3 := TK.eq htk eM3_97_12 eM3_97_13 eM3_97_14 eM3_97_15 eM3_97_16
      obtain ⟨siM3, htM3, loM30, stM3, sxM3⟩ := pM3
      have spM3 := stM3.1
      have saM3 := siM3.ar
      have loM3 : LO M M3 F0 := LO.tr (LO.rf _ _) loM30
      have hiM3 : HI M3 F0 1 := htM3 hh0
      have sqM3 : SQ M3 2 := SQ.nx hq0 (fM30 110 (by decide)) (by omega) (by omega)
      refine g_aload_n (pc' := 36) 1 dX10_behindTest_35 rfl rfl ?_
      refine g_iload_n (pc' := 37) 0 dX10_behindTest_36 rfl rfl ?_
      refine g_if_eq (pc' := 40) (tgt := 45) (by decide) dX10_behindTest_37 rfl rfl (fun c4 => ?_) (fun c4 => ?_)
      · refine g_bipush (pc' := 47) (v := 29) dX10_behindTest_45 rfl (by decide) ?_
        refine g_aload_n (pc' := 48) 1 dX10_behindTest_47 rfl rfl ?_
        refine g_getI (pc' := 51) dX10_behindTest_48 rfl f_X10_191 rfl rfl (fun v5 ev5 rv5 => ?_)
        refine g_callVv (pc' := 54) (As := [vi 29, vi v5]) (b := 97) (S := []) dX10_behindTest_51 rfl m_X10_215 w_X10_push (c_X10_push X M3 iM3 29 (by decide) v5 rv5 (by omega)) rfl ⟨_, _, _, rfl, rfl, rfl⟩ (by decide) (by decide) rfl (Nat.le_of_ble_eq_true rfl) (fun M7 q6 => ?_)
        obtain ⟨iM7, fM70, eM7_97_12, eM7_97_19, eM7_97_21, eM7_97_24, eM7_97_28, eM7_97_13, eM7_97_14, eM7_97_15, eM7_97_16, eM7_97_18, pM7⟩ := q6
        have fM7 : Fr (fun c => c = 97 ∨ (108 ≤ c ∧ c ≤ 111)) M M7 := Fr.tr fM3 fM70 fi_35
        have q97_12_M7 : (M7 97 12 = M 97 12) := eM7_97_12.trans q97_12_M3
        have q97_19_M7 : (M7 97 19 = M 97 19) := eM7_97_19.trans q97_19_M3
        have wM7_97_13 : M7 97 13 = M3 97 13 := eM7_97_13
        have wM7_97_14 : M7 97 14 = M3 97 14 := eM7_97_14
        have wM7_97_15 : M7 97 15 = M3 97 15 := eM7_97_15
        have wM7_97_18 : M7 97 18 = M3 97 18 := eM7_97_18
        have wM7_97_21 : M7 97 21 = M3 97 21 := eM7_97_21
        have CM7_108 : M7 108 = M3 108 := fM70 108 (by decide)
        have CM7_109 : M7 109 = M3 109 := fM70 109 (by decide)
        have CM7_110 : M7 110 = ms (M3 110) (M3 97 27).toNat 29 := by rw [pM7.1, show M3 97 27 = M3 97 27 by omega]
        have CM7_111 : M7 111 = ms (M3 111) (M3 97 27).toNat v5 := by rw [pM7.2.1, show M3 97 27 = M3 97 27 by omega]
        have tkM7 : TK M7 := TK.eq tkM3 eM7_97_12 eM7_97_13 eM7_97_14 eM7_97_15 eM7_97_16
        have ppM7 := pM7.2.2
        clear pM7
        refine g_aload_n (pc' := 55) 1 dX10_behindTest_54 rfl rfl ?_
        refine g_iload_n (pc' := 56) 0 dX10_behindTest_55 rfl rfl ?_
        refine g_if_eq (pc' := 59) (tgt := 64) (by decide) dX10_behindTest_56 rfl rfl (fun c8 => ?_) (fun c8 => ?_)
        · refine g_bipush (pc' := 66) (v := 29) dX10_behindTest_64 rfl (by decide) ?_
          refine g_iconst (pc' := 67) dX10_behindTest_66 rfl ?_
          refine g_callVv (pc' := 70) (As := [vi 29, vi 0]) (b := 97) (S := []) dX10_behindTest_67 rfl m_X10_200 w_X10_emit (c_X10_emit X M7 iM7 29 (by decide) 0 (by decide) (by omega)) rfl ⟨_, _, _, rfl, rfl, rfl⟩ (by decide) (by decide) rfl (Nat.le_of_ble_eq_true rfl) (fun M10 q9 => ?_)
          obtain ⟨iM10, fM100, eM10_97_12, eM10_97_19, eM10_97_24, eM10_97_27, eM10_97_28, eM10_97_13, eM10_97_14, eM10_97_15, eM10_97_16, eM10_97_18, pM10⟩ := q9
          have fM10 : Fr (fun c => c = 97 ∨ (108 ≤ c ∧ c ≤ 111)) M M10 := Fr.tr fM7 fM100 fi_34
          have q97_12_M10 : (M10 97 12 = M 97 12) := eM10_97_12.trans q97_12_M7
          have q97_19_M10 : (M10 97 19 = M 97 19) := eM10_97_19.trans q97_19_M7
          have wM10_97_13 : M10 97 13 = M7 97 13 := eM10_97_13
          have wM10_97_14 : M10 97 14 = M7 97 14 := eM10_97_14
          have wM10_97_15 : M10 97 15 = M7 97 15 := eM10_97_15
          have wM10_97_18 : M10 97 18 = M7 97 18 := eM10_97_18
          have wM10_97_27 : M10 97 27 = M7 97 27 := eM10_97_27
          have CM10_108 : M10 108 = ms (M3 108) (M3 97 21).toNat 29 := by rw [pM10.1, CM7_108, show M7 97 21 = M3 97 21 by omega]
          have CM10_109 : M10 109 = ms (M3 109) (M3 97 21).toNat 0 := by rw [pM10.2.1, CM7_109, show M7 97 21 = M3 97 21 by omega]
          have CM10_110 : M10 110 = ms (M3 110) (M3 97 27).toNat 29 := (fM100 110 (by decide)).trans CM7_110
          have CM10_111 : M10 111 = ms (M3 111) (M3 97 27).toNat v5 := (fM100 111 (by decide)).trans CM7_111
          have tkM10 : TK M10 := TK.eq tkM7 eM10_97_12 eM10_97_13 eM10_97_14 eM10_97_15 eM10_97_16
          have ppM10 := pM10.2.2
          clear pM10
          refine g_aload_n (pc' := 71) 1 dX10_behindTest_70 rfl rfl ?_
          refine g_callVv (pc' := 74) (As := []) (b := 97) (S := []) dX10_behindTest_71 rfl m_X10_158 w_X10_next (c_X10_next X M10 iM10 (by omega)) rfl ⟨_, _, _, rfl, rfl, rfl⟩ (by decide) (by decide) rfl (Nat.le_of_ble_eq_true rfl) (fun M12 q11 => ?_)
          obtain ⟨iM12, fM120, eM12_97_12, eM12_97_19, eM12_97_21, eM12_97_24, eM12_97_27, eM12_97_28, eM12_97_18, pM12⟩ := q11
          have fM12 : Fr (fun c => c = 97 ∨ (108 ≤ c ∧ c ≤ 111)) M M12 := Fr.tr fM10 fM120 fi_33
          have q97_12_M12 : (M12 97 12 = M 97 12) := eM12_97_12.trans q97_12_M10
          have q97_19_M12 : (M12 97 19 = M 97 19) := eM12_97_19.trans q97_19_M10
          have wM12_97_18 : M12 97 18 = M10 97 18 := eM12_97_18
          have wM12_97_21 : M12 97 21 = M10 97 21 := eM12_97_21
          have wM12_97_27 : M12 97 27 = M10 97 27 := eM12_97_27
          have CM12_108 : M12 108 = ms (M3 108) (M3 97 21).toNat 29 := (fM120 108 (by decide)).trans CM10_108
          have CM12_109 : M12 109 = ms (M3 109) (M3 97 21).toNat 0 := (fM120 109 (by decide)).trans CM10_109
          have CM12_110 : M12 110 = ms (M3 110) (M3 97 27).toNat 29 := (fM120 110 (by decide)).trans CM10_110
          have CM12_111 : M12 111 = ms (M3 111) (M3 97 27).toNat v5 := (fM120 111 (by decide)).trans CM10_111
          obtain ⟨aM12p, kM12p⟩ := pM12
          have tkM12 : TK M12 := kM12p
          clear kM12p
          have tbM12 := tkM12.b
          refine g_iconst (pc' := 75) dX10_behindTest_74 rfl ?_
          refine g_ireturn dX10_behindTest_75 ?_
          exact ⟨iM12, fM12, q97_12_M12, q97_19_M12, ⟨by omega, by omega⟩, (PS.mk_ (q := 0) (SI.ao siM3 (by omega) CM12_110 (by rw [CM12_111, show v5 = M3 97 21 by omega]) (by omega) (by omega) (by omega) (by omega)) (HI.ao siM3 hiM3 (by omega) CM12_108 CM12_109 CM12_110 (by rw [CM12_111, show v5 = M3 97 21 by omega]) (by omega) (by omega)) (SQ.push sqM3 CM12_110 (by omega) (by omega) (by omega) (by omega)) (by omega)), (LO.tr loM3 (LO.em CM12_108 CM12_109 (by omega) (by omega))), tkM12, by omega, (mz_lt hbad (by omega) (by omega) (by omega))⟩
        · exact absurd c8 (by omega)
      · exact absurd c4 (by omega)
    · exact absurd c1 (by omega)
  · refine g_aload_n (pc' := 23) 1 dX10_behindTest_22 rfl rfl ?_
    refine g_iload_n (pc' := 24) 0 dX10_behindTest_23 rfl rfl ?_
    refine g_if_eq (pc' := 27) (tgt := 31) (by decide) dX10_behindTest_24 rfl rfl (fun c13 => ?_) (fun c13 => ?_)
    · exact absurd c13 (by omega)
    · refine g_iconst (pc' := 28) dX10_behindTest_27 rfl ?_
      refine g_goto (tgt := 32) dX10_behindTest_28 rfl ?_
      refine g_callVv (pc' := 35) (As := [vi 2]) (b := 97) (S := []) dX10_behindTest_32 rfl m_X10_254 w_X10_settle (c_X10_settle X M hi 2 (by decide) F0 hs0 (by omega)) rfl ⟨_, _, _, rfl, rfl, rfl⟩ (by decide) (by decide) rfl (Nat.le_of_ble_eq_true rfl) (fun M15 q14 => ?_)
      obtain ⟨iM15, fM150, eM15_97_12, eM15_97_19, eM15_97_24, eM15_97_28, eM15_97_13, eM15_97_14, eM15_97_15, eM15_97_16, eM15_97_18, pM15⟩ := q14
      have fM15 : Fr (fun c => c = 97 ∨ (108 ≤ c ∧ c ≤ 111)) M M15 := Fr.tr Fr.rf fM150 fi_34
      have q97_12_M15 : (M15 97 12 = M 97 12) := eM15_97_12
      have q97_19_M15 : (M15 97 19 = M 97 19) := eM15_97_19
      have wM15_97_13 : M15 97 13 = M 97 13 := eM15_97_13
      have wM15_97_14 : M15 97 14 = M 97 14 := eM15_97_14
      have wM15_97_15 : M15 97 15 = M 97 15 := eM15_97_15
      have wM15_97_18 : M15 97 18 = M 97 18 := eM15_97_18
      have CM15_110 : M15 110 = M 110 := fM150 110 (by decide)
      have CM15_111 : M15 111 = M 111 := fM150 111 (by decide)
      have tkM15 : TK M15 := TK.eq htk eM15_97_12 eM15_97_13 eM15_97_14 eM15_97_15 eM15_97_16
      obtain ⟨siM15, htM15, loM150, stM15, sxM15⟩ := pM15
      have spM15 := stM15.1
      have saM15 := siM15.ar
      have loM15 : LO M M15 F0 := LO.tr (LO.rf _ _) loM150
      have hiM15 : HI M15 F0 1 := htM15 hh0
      have sqM15 : SQ M15 2 := SQ.nx hq0 (fM150 110 (by decide)) (by omega) (by omega)
      refine g_aload_n (pc' := 36) 1 dX10_behindTest_35 rfl rfl ?_
      refine g_iload_n (pc' := 37) 0 dX10_behindTest_36 rfl rfl ?_
      refine g_if_eq (pc' := 40) (tgt := 45) (by decide) dX10_behindTest_37 rfl rfl (fun c16 => ?_) (fun c16 => ?_)
      · exact absurd c16 (by omega)
      · refine g_bipush (pc' := 42) (v := 28) dX10_behindTest_40 rfl (by decide) ?_
        refine g_goto (tgt := 47) dX10_behindTest_42 rfl ?_
        refine g_aload_n (pc' := 48) 1 dX10_behindTest_47 rfl rfl ?_
        refine g_getI (pc' := 51) dX10_behindTest_48 rfl f_X10_191 rfl rfl (fun v17 ev17 rv17 => ?_)
        refine g_callVv (pc' := 54) (As := [vi 28, vi v17]) (b := 97) (S := []) dX10_behindTest_51 rfl m_X10_215 w_X10_push (c_X10_push X M15 iM15 28 (by decide) v17 rv17 (by omega)) rfl ⟨_, _, _, rfl, rfl, rfl⟩ (by decide) (by decide) rfl (Nat.le_of_ble_eq_true rfl) (fun M19 q18 => ?_)
        obtain ⟨iM19, fM190, eM19_97_12, eM19_97_19, eM19_97_21, eM19_97_24, eM19_97_28, eM19_97_13, eM19_97_14, eM19_97_15, eM19_97_16, eM19_97_18, pM19⟩ := q18
        have fM19 : Fr (fun c => c = 97 ∨ (108 ≤ c ∧ c ≤ 111)) M M19 := Fr.tr fM15 fM190 fi_35
        have q97_12_M19 : (M19 97 12 = M 97 12) := eM19_97_12.trans q97_12_M15
        have q97_19_M19 : (M19 97 19 = M 97 19) := eM19_97_19.trans q97_19_M15
        have wM19_97_13 : M19 97 13 = M15 97 13 := eM19_97_13
        have wM19_97_14 : M19 97 14 = M15 97 14 := eM19_97_14
        have wM19_97_15 : M19 97 15 = M15 97 15 := eM19_97_15
        have wM19_97_18 : M19 97 18 = M15 97 18 := eM19_97_18
        have wM19_97_21 : M19 97 21 = M15 97 21 := eM19_97_21
        have CM19_108 : M19 108 = M15 108 := fM190 108 (by decide)
        have CM19_109 : M19 109 = M15 109 := fM190 109 (by decide)
        have CM19_110 : M19 110 = ms (M15 110) (M15 97 27).toNat 28 := by rw [pM19.1, show M15 97 27 = M15 97 27 by omega]
        have CM19_111 : M19 111 = ms (M15 111) (M15 97 27).toNat v17 := by rw [pM19.2.1, show M15 97 27 = M15 97 27 by omega]
        have tkM19 : TK M19 := TK.eq tkM15 eM19_97_12 eM19_97_13 eM19_97_14 eM19_97_15 eM19_97_16
        have ppM19 := pM19.2.2
        clear pM19
        refine g_aload_n (pc' := 55) 1 dX10_behindTest_54 rfl rfl ?_
        refine g_iload_n (pc' := 56) 0 dX10_behindTest_55 rfl rfl ?_
        refine g_if_eq (pc' := 59) (tgt := 64) (by decide) dX10_behindTest_56 rfl rfl (fun c20 => ?_) (fun c20 => ?_)
        · exact absurd c20 (by omega)
        · refine g_bipush (pc' := 61) (v := 28) dX10_behindTest_59 rfl (by decide) ?_
          refine g_goto (tgt := 66) dX10_behindTest_61 rfl ?_
          refine g_iconst (pc' := 67) dX10_behindTest_66 rfl ?_
          refine g_callVv (pc' := 70) (As := [vi 28, vi 0]) (b := 97) (S := []) dX10_behindTest_67 rfl m_X10_200 w_X10_emit (c_X10_emit X M19 iM19 28 (by decide) 0 (by decide) (by omega)) rfl ⟨_, _, _, rfl, rfl, rfl⟩ (by decide) (by decide) rfl (Nat.le_of_ble_eq_true rfl) (fun M22 q21 => ?_)
          obtain ⟨iM22, fM220, eM22_97_12, eM22_97_19, eM22_97_24, eM22_97_27, eM22_97_28, eM22_97_13, eM22_97_14, eM22_97_15, eM22_97_16, eM22_97_18, pM22⟩ := q21
          have fM22 : Fr (fun c => c = 97 ∨ (108 ≤ c ∧ c ≤ 111)) M M22 := Fr.tr fM19 fM220 fi_34
          have q97_12_M22 : (M22 97 12 = M 97 12) := eM22_97_12.trans q97_12_M19
          have q97_19_M22 : (M22 97 19 = M 97 19) := eM22_97_19.trans q97_19_M19
          have wM22_97_13 : M22 97 13 = M19 97 13 := eM22_97_13
          have wM22_97_14 : M22 97 14 = M19 97 14 := eM22_97_14
          have wM22_97_15 : M22 97 15 = M19 97 15 := eM22_97_15
          have wM22_97_18 : M22 97 18 = M19 97 18 := eM22_97_18
          have wM22_97_27 : M22 97 27 = M19 97 27 := eM22_97_27
          have CM22_108 : M22 108 = ms (M15 108) (M15 97 21).toNat 28 := by rw [pM22.1, CM19_108, show M19 97 21 = M15 97 21 by omega]
          have CM22_109 : M22 109 = ms (M15 109) (M15 97 21).toNat 0 := by rw [pM22.2.1, CM19_109, show M19 97 21 = M15 97 21 by omega]
          have CM22_110 : M22 110 = ms (M15 110) (M15 97 27).toNat 28 := (fM220 110 (by decide)).trans CM19_110
          have CM22_111 : M22 111 = ms (M15 111) (M15 97 27).toNat v17 := (fM220 111 (by decide)).trans CM19_111
          have tkM22 : TK M22 := TK.eq tkM19 eM22_97_12 eM22_97_13 eM22_97_14 eM22_97_15 eM22_97_16
          have ppM22 := pM22.2.2
          clear pM22
          refine g_aload_n (pc' := 71) 1 dX10_behindTest_70 rfl rfl ?_
          refine g_callVv (pc' := 74) (As := []) (b := 97) (S := []) dX10_behindTest_71 rfl m_X10_158 w_X10_next (c_X10_next X M22 iM22 (by omega)) rfl ⟨_, _, _, rfl, rfl, rfl⟩ (by decide) (by decide) rfl (Nat.le_of_ble_eq_true rfl) (fun M24 q23 => ?_)
          obtain ⟨iM24, fM240, eM24_97_12, eM24_97_19, eM24_97_21, eM24_97_24, eM24_97_27, eM24_97_28, eM24_97_18, pM24⟩ := q23
          have fM24 : Fr (fun c => c = 97 ∨ (108 ≤ c ∧ c ≤ 111)) M M24 := Fr.tr fM22 fM240 fi_33
          have q97_12_M24 : (M24 97 12 = M 97 12) := eM24_97_12.trans q97_12_M22
          have q97_19_M24 : (M24 97 19 = M 97 19) := eM24_97_19.trans q97_19_M22
          have wM24_97_18 : M24 97 18 = M22 97 18 := eM24_97_18
          have wM24_97_21 : M24 97 21 = M22 97 21 := eM24_97_21
          have wM24_97_27 : M24 97 27 = M22 97 27 := eM24_97_27
          have CM24_108 : M24 108 = ms (M15 108) (M15 97 21).toNat 28 := (fM240 108 (by decide)).trans CM22_108
          have CM24_109 : M24 109 = ms (M15 109) (M15 97 21).toNat 0 := (fM240 109 (by decide)).trans CM22_109
          have CM24_110 : M24 110 = ms (M15 110) (M15 97 27).toNat 28 := (fM240 110 (by decide)).trans CM22_110
          have CM24_111 : M24 111 = ms (M15 111) (M15 97 27).toNat v17 := (fM240 111 (by decide)).trans CM22_111
          obtain ⟨aM24p, kM24p⟩ := pM24
          have tkM24 : TK M24 := kM24p
          clear kM24p
          have tbM24 := tkM24.b
          refine g_iconst (pc' := 75) dX10_behindTest_74 rfl ?_
          refine g_ireturn dX10_behindTest_75 ?_
          exact ⟨iM24, fM24, q97_12_M24, q97_19_M24, ⟨by omega, by omega⟩, (PS.mk_ (q := 0) (SI.ao siM15 (by omega) CM24_110 (by rw [CM24_111, show v17 = M15 97 21 by omega]) (by omega) (by omega) (by omega) (by omega)) (HI.ao siM15 hiM15 (by omega) CM24_108 CM24_109 CM24_110 (by rw [CM24_111, show v17 = M15 97 21 by omega]) (by omega) (by omega)) (SQ.push sqM15 CM24_110 (by omega) (by omega) (by omega) (by omega)) (by omega)), (LO.tr loM15 (LO.em CM24_108 CM24_109 (by omega) (by omega))), tkM24, by omega, (mz_lt hbad (by omega) (by omega) (by omega))⟩
set_option maxHeartbeats 4000000 in
set_option maxRecDepth 100000 in
theorem c_X10_behindTest (X : Cx) (M : Mm) (hi : IM M) (F0 : Int) (hs0 : SI M F0) (hh0 : HI M F0 1) (hq0 : SQ M 2) (htk : TK M) (hbad : M 97 18 = 0) : Con X 3 yX10_behindTest cX10_behindTest 2 (some .int) [vr X 97] M (Qi (fun r M1 => IM M1 ∧ Fr (fun c => c = 97 ∨ (108 ≤ c ∧ c ≤ 111)) M M1 ∧ M1 97 12 = M 97 12 ∧ M1 97 19 = M 97 19 ∧ ((0 ≤ r ∧ r ≤ 4) ∧ PS M1 F0 r ∧ LO M M1 F0 ∧ TK M1 ∧ M 97 13 ≤ M1 97 13 ∧ mz (M1 97 13) (M1 97 18) r < mz (M 97 13) (M 97 18) 2))) := by
  refine Con.ofG rfl (Nat.le_of_ble_eq_true rfl) ?_
  show G X 3 RX10 cX10_behindTest 2 (some .int) (Qi (fun r M1 => IM M1 ∧ Fr (fun c => c = 97 ∨ (108 ≤ c ∧ c ≤ 111)) M M1 ∧ M1 97 12 = M 97 12 ∧ M1 97 19 = M 97 19 ∧ ((0 ≤ r ∧ r ≤ 4) ∧ PS M1 F0 r ∧ LO M M1 F0 ∧ TK M1 ∧ M 97 13 ≤ M1 97 13 ∧ mz (M1 97 13) (M1 97 18) r < mz (M 97 13) (M 97 18) 2))) 0 [(0, vr X 97)] [] M
  have p12 := hi.2.2.2.1
  have sa0 := hs0.ar
  have tb0 := htk.b
  have lt0 := htk.lt
  refine g_aload_n (pc' := 1) 0 dX10_behindTest_0 rfl rfl ?_
  refine g_ldc2 (pc' := 4) (v := 1476) dX10_behindTest_1 rfl k_X10_264 ?_
  refine g_callVip (pc' := 7) (As := [vl 1476]) (b := 97) (S := []) dX10_behindTest_4 rfl m_X10_229 w_X10_isWord (c_X10_isWord X M hi 1476 (by decide)) rfl ⟨_, _, _, rfl, rfl, rfl⟩ (by decide) (by decide) rfl (Nat.le_of_ble_eq_true rfl) (fun z2 q1 => ?_)
  refine g_istore_n (pc' := 8) (i := 1) (L' := [(1, vi z2), (0, vr X 97)]) dX10_behindTest_7 rfl rfl (by decide) rfl ?_
  refine g_iload_n (pc' := 9) 0 dX10_behindTest_8 rfl rfl ?_
  refine g_if_ne (pc' := 12) (tgt := 22) ⟨by omega, by omega⟩ dX10_behindTest_9 rfl rfl (fun c3 => ?_) (fun c3 => ?_)
  · refine g_sub [0, 1] rfl ?_
    exact j_X10_behindTest_22 X M hi F0 hs0 hh0 hq0 htk hbad z2 (by omega) (by omega)
  · refine g_aload_n (pc' := 13) 1 dX10_behindTest_12 rfl rfl ?_
    refine g_ldc2 (pc' := 16) (v := 498) dX10_behindTest_13 rfl k_X10_266 ?_
    refine g_callVip (pc' := 19) (As := [vl 498]) (b := 97) (S := []) dX10_behindTest_16 rfl m_X10_229 w_X10_isWord (c_X10_isWord X M hi 498 (by decide)) rfl ⟨_, _, _, rfl, rfl, rfl⟩ (by decide) (by decide) rfl (Nat.le_of_ble_eq_true rfl) (fun z5 q4 => ?_)
    refine g_if_eq (pc' := 22) (tgt := 76) ⟨by omega, by omega⟩ dX10_behindTest_19 rfl rfl (fun c6 => ?_) (fun c6 => ?_)
    · refine g_aload_n (pc' := 77) 1 dX10_behindTest_76 rfl rfl ?_
      refine g_callVip (pc' := 80) (As := []) (b := 97) (S := []) dX10_behindTest_77 rfl m_X10_257 w_X10_inner (c_X10_inner X M hi F0 hs0) rfl ⟨_, _, _, rfl, rfl, rfl⟩ (by decide) (by decide) rfl (Nat.le_of_ble_eq_true rfl) (fun z8 q7 => ?_)
      refine g_iconst (pc' := 81) dX10_behindTest_80 rfl ?_
      refine g_ic_ne (pc' := 84) (tgt := 86) ⟨by omega, by omega⟩ (by decide) dX10_behindTest_81 rfl rfl (fun c9 => ?_) (fun c9 => ?_)
      · refine g_aload_n (pc' := 87) 1 dX10_behindTest_86 rfl rfl ?_
        refine g_aload_n (pc' := 88) 1 dX10_behindTest_87 rfl rfl ?_
        refine g_bipush (pc' := 90) (v := 41) dX10_behindTest_88 rfl (by decide) ?_
        refine g_callVip (pc' := 93) (As := [vi 41]) (b := 97) (S := [vr X 97]) dX10_behindTest_90 rfl m_X10_221 w_X10_isSign (c_X10_isSign X M hi 41 (by decide)) rfl ⟨_, _, _, rfl, rfl, rfl⟩ (by decide) (by decide) rfl (Nat.le_of_ble_eq_true rfl) (fun z11 q10 => ?_)
        refine g_callVv (pc' := 96) (As := [vi z11]) (b := 97) (S := []) dX10_behindTest_93 rfl m_X10_187 w_X10_must (c_X10_must X M hi z11 ⟨by omega, by omega⟩ htk) rfl ⟨_, _, _, rfl, rfl, rfl⟩ (by decide) (by decide) rfl (Nat.le_of_ble_eq_true rfl) (fun M13 q12 => ?_)
        obtain ⟨iM13, fM130, eM13_97_12, eM13_97_19, eM13_97_21, eM13_97_24, eM13_97_27, eM13_97_28, pM13⟩ := q12
        have fM13 : Fr (fun c => c = 97 ∨ (108 ≤ c ∧ c ≤ 111)) M M13 := Fr.tr Fr.rf fM130 fi_33
        have q97_12_M13 : (M13 97 12 = M 97 12) := eM13_97_12
        have q97_19_M13 : (M13 97 19 = M 97 19) := eM13_97_19
        have wM13_97_21 : M13 97 21 = M 97 21 := eM13_97_21
        have wM13_97_27 : M13 97 27 = M 97 27 := eM13_97_27
        have CM13_108 : M13 108 = M 108 := fM130 108 (by decide)
        have CM13_109 : M13 109 = M 109 := fM130 109 (by decide)
        have CM13_110 : M13 110 = M 110 := fM130 110 (by decide)
        have CM13_111 : M13 111 = M 111 := fM130 111 (by decide)
        obtain ⟨aM13p, bM13p, cM13p, kM13p⟩ := pM13
        have tkM13 : TK M13 := kM13p
        clear kM13p
        have tbM13 := tkM13.b
        have siM13 : SI M13 F0 := SI.nx hs0 CM13_110 CM13_111 (by omega) (by omega) (by omega) (by omega)
        have hiM13 := HI.nx hh0 CM13_108 CM13_109 CM13_110 CM13_111 (by omega) (by omega)
        have sqM13 : SQ M13 2 := SQ.nx hq0 CM13_110 (by omega) (by omega)
        have loM13 : LO M M13 F0 := LO.tr (LO.rf _ _) (LO.eq CM13_108 CM13_109)
        refine g_aload_n (pc' := 97) 1 dX10_behindTest_96 rfl rfl ?_
        refine g_getI (pc' := 100) dX10_behindTest_97 rfl f_X10_154 rfl rfl (fun v14 ev14 rv14 => ?_)
        refine g_if_ne (pc' := 103) (tgt := 128) rv14 dX10_behindTest_100 rfl rfl (fun c15 => ?_) (fun c15 => ?_)
        · refine g_iconst (pc' := 129) dX10_behindTest_128 rfl ?_
          refine g_ireturn dX10_behindTest_129 ?_
          exact ⟨iM13, fM13, q97_12_M13, q97_19_M13, ⟨by omega, by omega⟩, (PS.bad siM13 (by omega)), loM13, tkM13, by omega, (mz_lt hbad (by omega) (by omega) (by omega))⟩
        · refine g_aload_n (pc' := 104) 1 dX10_behindTest_103 rfl rfl ?_
          refine g_iconst (pc' := 105) dX10_behindTest_104 rfl ?_
          refine g_callVv (pc' := 108) (As := [vi 1]) (b := 97) (S := []) dX10_behindTest_105 rfl m_X10_254 w_X10_settle (c_X10_settle X M13 iM13 1 (by decide) F0 siM13 (by omega)) rfl ⟨_, _, _, rfl, rfl, rfl⟩ (by decide) (by decide) rfl (Nat.le_of_ble_eq_true rfl) (fun M17 q16 => ?_)
          obtain ⟨iM17, fM170, eM17_97_12, eM17_97_19, eM17_97_24, eM17_97_28, eM17_97_13, eM17_97_14, eM17_97_15, eM17_97_16, eM17_97_18, pM17⟩ := q16
          have fM17 : Fr (fun c => c = 97 ∨ (108 ≤ c ∧ c ≤ 111)) M M17 := Fr.tr fM13 fM170 fi_34
          have q97_12_M17 : (M17 97 12 = M 97 12) := eM17_97_12.trans q97_12_M13
          have q97_19_M17 : (M17 97 19 = M 97 19) := eM17_97_19.trans q97_19_M13
          have wM17_97_13 : M17 97 13 = M13 97 13 := eM17_97_13
          have wM17_97_14 : M17 97 14 = M13 97 14 := eM17_97_14
          have wM17_97_15 : M17 97 15 = M13 97 15 := eM17_97_15
          have wM17_97_18 : M17 97 18 = M13 97 18 := eM17_97_18
          have CM17_110 : M17 110 = M 110 := (fM170 110 (by decide)).trans CM13_110
          have CM17_111 : M17 111 = M 111 := (fM170 111 (by decide)).trans CM13_111
          have tkM17 : TK M17 := TK.eq tkM13 eM17_97_12 eM17_97_13 eM17_97_14 eM17_97_15 eM17_97_16
          obtain ⟨siM17, htM17, loM170, stM17, sxM17⟩ := pM17
          have spM17 := stM17.1
          have saM17 := siM17.ar
          have loM17 : LO M M17 F0 := LO.tr loM13 loM170
          have hiM17 : HI M17 F0 1 := htM17 hiM13
          have sqM17 : SQ M17 2 := SQ.nx sqM13 (fM170 110 (by decide)) (by omega) (by omega)
          refine g_aload_n (pc' := 109) 1 dX10_behindTest_108 rfl rfl ?_
          refine g_dup (pc' := 110) dX10_behindTest_109 rfl rfl ?_
          refine g_getI (pc' := 113) dX10_behindTest_110 rfl f_X10_194 rfl rfl (fun v18 ev18 rv18 => ?_)
          refine g_iconst (pc' := 114) dX10_behindTest_113 rfl ?_
          refine g_isub (pc' := 115) dX10_behindTest_114 rfl ?_
          refine g_putI (pc' := 118) dX10_behindTest_115 rfl p_X10_194 rfl rfl ⟨by omega, by omega⟩ (fun M19 hM19 => ?_)
          have iM19 : IM M19 := IM.wr iM17 hM19 (by unfold okv; first | decide | omega)
          have fM19 : Fr (fun c => c = 97 ∨ (108 ≤ c ∧ c ≤ 111)) M M19 := Fr.wr fM17 hM19 (by first | decide | omega | (dsimp only; omega))
          have q97_12_M19 : (M19 97 12 = M 97 12) := (show M19 97 12 = M17 97 12 by rw [hM19]; exact mu_ne _ _ (by first | decide | omega)).trans q97_12_M17
          have q97_19_M19 : (M19 97 19 = M 97 19) := (show M19 97 19 = M17 97 19 by rw [hM19]; exact mu_ne _ _ (by first | decide | omega)).trans q97_19_M17
          have wM19_97_13 : M19 97 13 = M17 97 13 := by rw [hM19]; exact mu_ne _ _ (by first | decide | omega)
          have wM19_97_14 : M19 97 14 = M17 97 14 := by rw [hM19]; exact mu_ne _ _ (by first | decide | omega)
          have wM19_97_15 : M19 97 15 = M17 97 15 := by rw [hM19]; exact mu_ne _ _ (by first | decide | omega)
          have wM19_97_18 : M19 97 18 = M17 97 18 := by rw [hM19]; exact mu_ne _ _ (by first | decide | omega)
          have wM19_97_21 : M19 97 21 = M17 97 21 := by rw [hM19]; exact mu_ne _ _ (by first | decide | omega)
          have xM19_97_27 : M19 97 27 = v18 - 1 := by rw [hM19]; exact mu_at _ _ _ _
          have CM19_108 : M19 108 = M17 108 := by rw [hM19, mu_cell _ _ (by decide)]
          have CM19_109 : M19 109 = M17 109 := by rw [hM19, mu_cell _ _ (by decide)]
          have CM19_110 : M19 110 = M17 110 := by rw [hM19, mu_cell _ _ (by decide)]
          have CM19_111 : M19 111 = M17 111 := by rw [hM19, mu_cell _ _ (by decide)]
          have tkM19 : TK M19 := TK.eq tkM17 (show M19 97 12 = M17 97 12 by rw [hM19]; exact mu_ne _ _ (by first | decide | omega)) (show M19 97 13 = M17 97 13 by rw [hM19]; exact mu_ne _ _ (by first | decide | omega)) (show M19 97 14 = M17 97 14 by rw [hM19]; exact mu_ne _ _ (by first | decide | omega)) (show M19 97 15 = M17 97 15 by rw [hM19]; exact mu_ne _ _ (by first | decide | omega)) (show M19 97 16 = M17 97 16 by rw [hM19]; exact mu_ne _ _ (by first | decide | omega))
          refine g_aload_n (pc' := 119) 1 dX10_behindTest_118 rfl rfl ?_
          refine g_dup (pc' := 120) dX10_behindTest_119 rfl rfl ?_
          refine g_getI (pc' := 123) dX10_behindTest_120 rfl f_X10_212 rfl rfl (fun v20 ev20 rv20 => ?_)
          refine g_iconst (pc' := 124) dX10_behindTest_123 rfl ?_
          refine g_isub (pc' := 125) dX10_behindTest_124 rfl ?_
          refine g_nrmI (fun n21 rn21 en21 => ?_)
          have bn21 : (-2147483648 ≤ v20 - 1 ∧ v20 - 1 ≤ 2147483647) → n21 = v20 - 1 := fun h => en21.trans (bm32 h)
          refine g_putI (pc' := 128) dX10_behindTest_125 rfl p_X10_212 rfl rfl rn21 (fun M22 hM22 => ?_)
          have iM22 : IM M22 := IM.wr iM19 hM22 (by unfold okv; first | decide | omega)
          have fM22 : Fr (fun c => c = 97 ∨ (108 ≤ c ∧ c ≤ 111)) M M22 := Fr.wr fM19 hM22 (by first | decide | omega | (dsimp only; omega))
          have q97_12_M22 : (M22 97 12 = M 97 12) := (show M22 97 12 = M19 97 12 by rw [hM22]; exact mu_ne _ _ (by first | decide | omega)).trans q97_12_M19
          have q97_19_M22 : (M22 97 19 = M 97 19) := (show M22 97 19 = M19 97 19 by rw [hM22]; exact mu_ne _ _ (by first | decide | omega)).trans q97_19_M19
          have wM22_97_13 : M22 97 13 = M19 97 13 := by rw [hM22]; exact mu_ne _ _ (by first | decide | omega)
          have wM22_97_14 : M22 97 14 = M19 97 14 := by rw [hM22]; exact mu_ne _ _ (by first | decide | omega)
          have wM22_97_15 : M22 97 15 = M19 97 15 := by rw [hM22]; exact mu_ne _ _ (by first | decide | omega)
          have wM22_97_18 : M22 97 18 = M19 97 18 := by rw [hM22]; exact mu_ne _ _ (by first | decide | omega)
          have wM22_97_21 : M22 97 21 = M19 97 21 := by rw [hM22]; exact mu_ne _ _ (by first | decide | omega)
          have wM22_97_27 : M22 97 27 = M19 97 27 := by rw [hM22]; exact mu_ne _ _ (by first | decide | omega)
          have xM22_97_27 : M22 97 27 = v18 - 1 := (show M22 97 27 = M19 97 27 by rw [hM22]; exact mu_ne _ _ (by first | decide | omega)).trans xM19_97_27
          have xM22_97_28 : M22 97 28 = n21 := by rw [hM22]; exact mu_at _ _ _ _
          have CM22_108 : M22 108 = M17 108 := by rw [hM22, mu_cell _ _ (by decide), CM19_108]
          have CM22_109 : M22 109 = M17 109 := by rw [hM22, mu_cell _ _ (by decide), CM19_109]
          have CM22_110 : M22 110 = M17 110 := by rw [hM22, mu_cell _ _ (by decide), CM19_110]
          have CM22_111 : M22 111 = M17 111 := by rw [hM22, mu_cell _ _ (by decide), CM19_111]
          have tkM22 : TK M22 := TK.eq tkM19 (show M22 97 12 = M19 97 12 by rw [hM22]; exact mu_ne _ _ (by first | decide | omega)) (show M22 97 13 = M19 97 13 by rw [hM22]; exact mu_ne _ _ (by first | decide | omega)) (show M22 97 14 = M19 97 14 by rw [hM22]; exact mu_ne _ _ (by first | decide | omega)) (show M22 97 15 = M19 97 15 by rw [hM22]; exact mu_ne _ _ (by first | decide | omega)) (show M22 97 16 = M19 97 16 by rw [hM22]; exact mu_ne _ _ (by first | decide | omega))
          have inM22 := INN.nx q7.1 rfl CM13_110 (show M13 97 27 = M 97 27 by omega)
          have drM22 := STP.rd stM17 inM22 (by omega)
          have dbM22 : 30 ≤ M17 110 (M17 97 27 - 1).toNat := by rw [fM170 110 (by decide)]; omega
          have siM22 : SI M22 F0 := SI.drop siM17 (by omega) (by omega) CM22_110 CM22_111 (by omega) (by omega)
          have hiM22 : HI M22 F0 1 := HI.drop hiM17 (by omega) dbM22 CM22_108 CM22_109 CM22_110 CM22_111 (by omega) (by omega)
          have sqM22 : SQ M22 2 := SQ.nx sqM17 CM22_110 (by omega) (by omega)
          have loM22 : LO M M22 F0 := LO.tr loM17 (LO.eq CM22_108 CM22_109)
          refine g_iconst (pc' := 129) dX10_behindTest_128 rfl ?_
          refine g_ireturn dX10_behindTest_129 ?_
          exact ⟨iM22, fM22, q97_12_M22, q97_19_M22, ⟨by omega, by omega⟩, (PS.mk_ siM22 hiM22 sqM22 (by omega)), loM22, tkM22, by omega, (mz_lt hbad (by omega) (by omega) (by omega))⟩
      · refine g_iconst (pc' := 85) dX10_behindTest_84 rfl ?_
        refine g_ireturn dX10_behindTest_85 ?_
        exact ⟨hi, Fr.rf, rfl, rfl, ⟨by omega, by omega⟩, (PS.mk_ hs0 hh0 (SQ.inn hq0 q7.1 (by omega) (by omega)) (by omega)), (LO.rf _ _), htk, by omega, (mz_lt hbad (by omega) (by omega) (by omega))⟩
    · refine g_sub [0, 1] rfl ?_
      exact j_X10_behindTest_22 X M hi F0 hs0 hh0 hq0 htk hbad z2 (by omega) (by omega)
set_option maxHeartbeats 4000000 in
set_option maxRecDepth 100000 in
theorem l_X10_readExpression_20 (X : Cx) (M : Mm) (hi : IM M) (a : Int) (ha : inI a) (htk : TK M) (hbad : M 97 18 = 0) (hnc : 0 ≤ M 97 21 ∧ M 97 21 ≤ M 97 13) : ∀ (kk : Nat) (tn : Int) (M1 : Mm) (ic1 : IM M1) (fr1 : Fr (fun c => c = 97 ∨ (108 ≤ c ∧ c ≤ 111)) M M1) (q97_12 : (M1 97 12 = M 97 12)) (q97_19 : (M1 97 19 = M 97 19)) (htn : 0 ≤ tn ∧ tn ≤ 4) (ps1 : PS M1 (M 97 21) tn) (lo1 : LO M M1 (M 97 21)) (tk1 : TK M1) (fa1 : M 97 13 ≤ M1 97 13), (mz (M1 97 13) (M1 97 18) tn).toNat = kk → G X 6 RX10 cX10_readExpression 3 none (Qv (fun M1 => IM M1 ∧ Fr (fun c => c = 97 ∨ (108 ≤ c ∧ c ≤ 111)) M M1 ∧ M1 97 12 = M 97 12 ∧ M1 97 19 = M 97 19 ∧ (SI M1 (M 97 21) ∧ RX M1 (M 97 21) ∧ LO M M1 (M 97 21) ∧ TK M1 ∧ M 97 13 ≤ M1 97 13))) 20 [(2, vi tn), (0, vr X 97), (1, vi a)] [] M1 := by
  intro kk
  induction kk using Nat.strongRecOn with
  | ind kk ih =>
    intro tn M1 ic1 fr1 q97_12 q97_19 htn ps1 lo1 tk1 fa1 hmes
    have p12 := hi.2.2.2.1
    have sa1 := ps1.1.ar
    have tb1 := tk1.b
    refine g_aload_n (pc' := 21) 1 dX10_readExpression_20 rfl rfl ?_
    refine g_getI (pc' := 24) dX10_readExpression_21 rfl f_X10_154 rfl rfl (fun v1 ev1 rv1 => ?_)
    refine g_if_ne (pc' := 27) (tgt := 76) rv1 dX10_readExpression_24 rfl rfl (fun c2 => ?_) (fun c2 => ?_)
    · refine g_aload_n (pc' := 77) 1 dX10_readExpression_76 rfl rfl ?_
      refine g_iconst (pc' := 78) dX10_readExpression_77 rfl ?_
      refine g_callVv (pc' := 81) (As := [vi 1]) (b := 97) (S := []) dX10_readExpression_78 rfl m_X10_254 w_X10_settle (c_X10_settle X M1 ic1 1 (by decide) (M 97 21) ps1.1 (by omega)) rfl ⟨_, _, _, rfl, rfl, rfl⟩ (by decide) (by decide) rfl (Nat.le_of_ble_eq_true rfl) (fun M4 q3 => ?_)
      obtain ⟨iM4, fM40, eM4_97_12, eM4_97_19, eM4_97_24, eM4_97_28, eM4_97_13, eM4_97_14, eM4_97_15, eM4_97_16, eM4_97_18, pM4⟩ := q3
      have fM4 : Fr (fun c => c = 97 ∨ (108 ≤ c ∧ c ≤ 111)) M M4 := Fr.tr fr1 fM40 fi_34
      have q97_12_M4 : (M4 97 12 = M 97 12) := eM4_97_12.trans q97_12
      have q97_19_M4 : (M4 97 19 = M 97 19) := eM4_97_19.trans q97_19
      have wM4_97_13 : M4 97 13 = M1 97 13 := eM4_97_13
      have wM4_97_14 : M4 97 14 = M1 97 14 := eM4_97_14
      have wM4_97_15 : M4 97 15 = M1 97 15 := eM4_97_15
      have wM4_97_18 : M4 97 18 = M1 97 18 := eM4_97_18
      have CM4_110 : M4 110 = M1 110 := fM40 110 (by decide)
      have CM4_111 : M4 111 = M1 111 := fM40 111 (by decide)
      have tkM4 : TK M4 := TK.eq tk1 eM4_97_12 eM4_97_13 eM4_97_14 eM4_97_15 eM4_97_16
      obtain ⟨siM4, htM4, loM40, stM4, sxM4⟩ := pM4
      have spM4 := stM4.1
      have saM4 := siM4.ar
      have loM4 : LO M M4 (M 97 21) := LO.tr lo1 loM40
      refine g_vreturn dX10_readExpression_81 ?_
      exact ⟨iM4, fM4, q97_12_M4, q97_19_M4, siM4, RX.fin (by omega) ps1 (by omega) siM4 htM4 stM4, loM4, tkM4, by omega⟩
    · refine g_iload_n (pc' := 28) 0 dX10_readExpression_27 rfl rfl ?_
      refine g_iconst (pc' := 29) dX10_readExpression_28 rfl ?_
      refine g_ic_eq (pc' := 32) (tgt := 76) ⟨by omega, by omega⟩ (by decide) dX10_readExpression_29 rfl rfl (fun c5 => ?_) (fun c5 => ?_)
      · refine g_aload_n (pc' := 77) 1 dX10_readExpression_76 rfl rfl ?_
        refine g_iconst (pc' := 78) dX10_readExpression_77 rfl ?_
        refine g_callVv (pc' := 81) (As := [vi 1]) (b := 97) (S := []) dX10_readExpression_78 rfl m_X10_254 w_X10_settle (c_X10_settle X M1 ic1 1 (by decide) (M 97 21) ps1.1 (by omega)) rfl ⟨_, _, _, rfl, rfl, rfl⟩ (by decide) (by decide) rfl (Nat.le_of_ble_eq_true rfl) (fun M7 q6 => ?_)
        obtain ⟨iM7, fM70, eM7_97_12, eM7_97_19, eM7_97_24, eM7_97_28, eM7_97_13, eM7_97_14, eM7_97_15, eM7_97_16, eM7_97_18, pM7⟩ := q6
        have fM7 : Fr (fun c => c = 97 ∨ (108 ≤ c ∧ c ≤ 111)) M M7 := Fr.tr fr1 fM70 fi_34
        have q97_12_M7 : (M7 97 12 = M 97 12) := eM7_97_12.trans q97_12
        have q97_19_M7 : (M7 97 19 = M 97 19) := eM7_97_19.trans q97_19
        have wM7_97_13 : M7 97 13 = M1 97 13 := eM7_97_13
        have wM7_97_14 : M7 97 14 = M1 97 14 := eM7_97_14
        have wM7_97_15 : M7 97 15 = M1 97 15 := eM7_97_15
        have wM7_97_18 : M7 97 18 = M1 97 18 := eM7_97_18
        have CM7_110 : M7 110 = M1 110 := fM70 110 (by decide)
        have CM7_111 : M7 111 = M1 111 := fM70 111 (by decide)
        have tkM7 : TK M7 := TK.eq tk1 eM7_97_12 eM7_97_13 eM7_97_14 eM7_97_15 eM7_97_16
        obtain ⟨siM7, htM7, loM70, stM7, sxM7⟩ := pM7
        have spM7 := stM7.1
        have saM7 := siM7.ar
        have loM7 : LO M M7 (M 97 21) := LO.tr lo1 loM70
        refine g_vreturn dX10_readExpression_81 ?_
        exact ⟨iM7, fM7, q97_12_M7, q97_19_M7, siM7, RX.fin (by omega) ps1 (by omega) siM7 htM7 stM7, loM7, tkM7, by omega⟩
      · refine g_iload_n (pc' := 33) 0 dX10_readExpression_32 rfl rfl ?_
        refine g_if_ne (pc' := 36) (tgt := 43) ⟨by omega, by omega⟩ dX10_readExpression_33 rfl rfl (fun c8 => ?_) (fun c8 => ?_)
        · refine g_iload_n (pc' := 44) 0 dX10_readExpression_43 rfl rfl ?_
          refine g_iconst (pc' := 45) dX10_readExpression_44 rfl ?_
          refine g_ic_ne (pc' := 48) (tgt := 55) ⟨by omega, by omega⟩ (by decide) dX10_readExpression_45 rfl rfl (fun c9 => ?_) (fun c9 => ?_)
          · refine g_iload_n (pc' := 56) 0 dX10_readExpression_55 rfl rfl ?_
            refine g_iconst (pc' := 57) dX10_readExpression_56 rfl ?_
            refine g_ic_ne (pc' := 60) (tgt := 68) ⟨by omega, by omega⟩ (by decide) dX10_readExpression_57 rfl rfl (fun c10 => ?_) (fun c10 => ?_)
            · refine g_aload_n (pc' := 69) 1 dX10_readExpression_68 rfl rfl ?_
              refine g_callVi (pc' := 72) (As := []) (b := 97) (S := []) dX10_readExpression_69 rfl m_X10_275 w_X10_behindTest (c_X10_behindTest X M1 ic1 (M 97 21) (PS.t_ ps1 (show tn = 2 by omega)).1 ((PS.t_ ps1 (show tn = 2 by omega)).hi (by omega) (by omega)) ((PS.t_ ps1 (show tn = 2 by omega)).sq (by omega)) tk1 (by omega)) rfl ⟨_, _, _, rfl, rfl, rfl⟩ (by decide) (by decide) rfl (Nat.le_of_ble_eq_true rfl) (fun z12 M13 q11 => ?_)
              obtain ⟨iM13, fM130, eM13_97_12, eM13_97_19, pM13⟩ := q11
              have fM13 : Fr (fun c => c = 97 ∨ (108 ≤ c ∧ c ≤ 111)) M M13 := Fr.tr fr1 fM130 (fun _ z => z)
              have q97_12_M13 : (M13 97 12 = M 97 12) := eM13_97_12.trans q97_12
              have q97_19_M13 : (M13 97 19 = M 97 19) := eM13_97_19.trans q97_19
              obtain ⟨rbM13, psM13, loM13, tkM13, faM13, mzM13⟩ := pM13
              have tbM13 := tkM13.b
              have mxM13 := mz_t (t' := tn) mzM13 (by omega)
              have myM13 := mz_nn (f := M13 97 13) (b := M13 97 18) (t := z12) (by omega)
              refine g_istore_n (pc' := 73) (i := 2) (L' := [(2, vi z12), (0, vr X 97), (1, vi a)]) dX10_readExpression_72 rfl rfl (by decide) rfl ?_
              refine g_goto (tgt := 20) dX10_readExpression_73 rfl ?_
              refine g_sub [0, 1, 2] rfl ?_
              exact ih _ (by omega) z12 M13 iM13 fM13 q97_12_M13 q97_19_M13 (by omega) psM13 (LO.tr lo1 loM13) tkM13 (by omega) rfl
            · refine g_aload_n (pc' := 61) 1 dX10_readExpression_60 rfl rfl ?_
              refine g_iload_n (pc' := 62) 2 dX10_readExpression_61 rfl rfl ?_
              refine g_callVi (pc' := 65) (As := [vi a]) (b := 97) (S := []) dX10_readExpression_62 rfl m_X10_271 w_X10_behindSum (c_X10_behindSum X M1 ic1 a ha (M 97 21) (PS.t_ ps1 (show tn = 3 by omega)).1 ((PS.t_ ps1 (show tn = 3 by omega)).hi (by omega) (by omega)) ((PS.t_ ps1 (show tn = 3 by omega)).sq (by omega)) tk1 (by omega)) rfl ⟨_, _, _, rfl, rfl, rfl⟩ (by decide) (by decide) rfl (Nat.le_of_ble_eq_true rfl) (fun z15 M16 q14 => ?_)
              obtain ⟨iM16, fM160, eM16_97_12, eM16_97_19, pM16⟩ := q14
              have fM16 : Fr (fun c => c = 97 ∨ (108 ≤ c ∧ c ≤ 111)) M M16 := Fr.tr fr1 fM160 (fun _ z => z)
              have q97_12_M16 : (M16 97 12 = M 97 12) := eM16_97_12.trans q97_12
              have q97_19_M16 : (M16 97 19 = M 97 19) := eM16_97_19.trans q97_19
              obtain ⟨rbM16, psM16, loM16, tkM16, faM16, mzM16⟩ := pM16
              have tbM16 := tkM16.b
              have mxM16 := mz_t (t' := tn) mzM16 (by omega)
              have myM16 := mz_nn (f := M16 97 13) (b := M16 97 18) (t := z15) (by omega)
              refine g_goto (tgt := 72) dX10_readExpression_65 rfl ?_
              refine g_istore_n (pc' := 73) (i := 2) (L' := [(2, vi z15), (0, vr X 97), (1, vi a)]) dX10_readExpression_72 rfl rfl (by decide) rfl ?_
              refine g_goto (tgt := 20) dX10_readExpression_73 rfl ?_
              refine g_sub [0, 1, 2] rfl ?_
              exact ih _ (by omega) z15 M16 iM16 fM16 q97_12_M16 q97_19_M16 (by omega) psM16 (LO.tr lo1 loM16) tkM16 (by omega) rfl
          · refine g_aload_n (pc' := 49) 1 dX10_readExpression_48 rfl rfl ?_
            refine g_callVi (pc' := 52) (As := []) (b := 97) (S := []) dX10_readExpression_49 rfl m_X10_250 w_X10_readPart (c_X10_readPart X M1 ic1 (M 97 21) (PS.t_ ps1 (show tn = 1 by omega)).1 ((PS.t_ ps1 (show tn = 1 by omega)).hi (by omega) (by omega)) 1 (by omega) ((PS.t_ ps1 (show tn = 1 by omega)).sq (by omega)) tk1 (by omega)) rfl ⟨_, _, _, rfl, rfl, rfl⟩ (by decide) (by decide) rfl (Nat.le_of_ble_eq_true rfl) (fun z18 M19 q17 => ?_)
            obtain ⟨iM19, fM190, eM19_97_12, eM19_97_19, pM19⟩ := q17
            have fM19 : Fr (fun c => c = 97 ∨ (108 ≤ c ∧ c ≤ 111)) M M19 := Fr.tr fr1 fM190 (fun _ z => z)
            have q97_12_M19 : (M19 97 12 = M 97 12) := eM19_97_12.trans q97_12
            have q97_19_M19 : (M19 97 19 = M 97 19) := eM19_97_19.trans q97_19
            obtain ⟨rbM19, psM19, loM19, tkM19, faM19, mzM19⟩ := pM19
            have tbM19 := tkM19.b
            have mxM19 := mz_t (t' := tn) mzM19 (by omega)
            have myM19 := mz_nn (f := M19 97 13) (b := M19 97 18) (t := z18) (by omega)
            refine g_goto (tgt := 72) dX10_readExpression_52 rfl ?_
            refine g_istore_n (pc' := 73) (i := 2) (L' := [(2, vi z18), (0, vr X 97), (1, vi a)]) dX10_readExpression_72 rfl rfl (by decide) rfl ?_
            refine g_goto (tgt := 20) dX10_readExpression_73 rfl ?_
            refine g_sub [0, 1, 2] rfl ?_
            exact ih _ (by omega) z18 M19 iM19 fM19 q97_12_M19 q97_19_M19 (by omega) psM19 (LO.tr lo1 loM19) tkM19 (by omega) rfl
        · refine g_aload_n (pc' := 37) 1 dX10_readExpression_36 rfl rfl ?_
          refine g_callVi (pc' := 40) (As := []) (b := 97) (S := []) dX10_readExpression_37 rfl m_X10_268 w_X10_readPlain (c_X10_readPlain X M1 ic1 (M 97 21) (PS.t_ ps1 (show tn = 0 by omega)).1 ((PS.t_ ps1 (show tn = 0 by omega)).hi (by omega) (by omega)) ((PS.t_ ps1 (show tn = 0 by omega)).sq (by omega)) tk1 (by omega)) rfl ⟨_, _, _, rfl, rfl, rfl⟩ (by decide) (by decide) rfl (Nat.le_of_ble_eq_true rfl) (fun z21 M22 q20 => ?_)
          obtain ⟨iM22, fM220, eM22_97_12, eM22_97_19, pM22⟩ := q20
          have fM22 : Fr (fun c => c = 97 ∨ (108 ≤ c ∧ c ≤ 111)) M M22 := Fr.tr fr1 fM220 (fun _ z => z)
          have q97_12_M22 : (M22 97 12 = M 97 12) := eM22_97_12.trans q97_12
          have q97_19_M22 : (M22 97 19 = M 97 19) := eM22_97_19.trans q97_19
          obtain ⟨rbM22, psM22, loM22, tkM22, faM22, mzM22⟩ := pM22
          have tbM22 := tkM22.b
          have mxM22 := mz_t (t' := tn) mzM22 (by omega)
          have myM22 := mz_nn (f := M22 97 13) (b := M22 97 18) (t := z21) (by omega)
          refine g_goto (tgt := 72) dX10_readExpression_40 rfl ?_
          refine g_istore_n (pc' := 73) (i := 2) (L' := [(2, vi z21), (0, vr X 97), (1, vi a)]) dX10_readExpression_72 rfl rfl (by decide) rfl ?_
          refine g_goto (tgt := 20) dX10_readExpression_73 rfl ?_
          refine g_sub [0, 1, 2] rfl ?_
          exact ih _ (by omega) z21 M22 iM22 fM22 q97_12_M22 q97_19_M22 (by omega) psM22 (LO.tr lo1 loM22) tkM22 (by omega) rfl
set_option maxHeartbeats 4000000 in
set_option maxRecDepth 100000 in
theorem c_X10_readExpression (X : Cx) (M : Mm) (hi : IM M) (a : Int) (ha : inI a) (htk : TK M) (hbad : M 97 18 = 0) (hnc : 0 ≤ M 97 21 ∧ M 97 21 ≤ M 97 13) : Con X 6 yX10_readExpression cX10_readExpression 3 none [vr X 97, vi a] M (Qv (fun M1 => IM M1 ∧ Fr (fun c => c = 97 ∨ (108 ≤ c ∧ c ≤ 111)) M M1 ∧ M1 97 12 = M 97 12 ∧ M1 97 19 = M 97 19 ∧ (SI M1 (M 97 21) ∧ RX M1 (M 97 21) ∧ LO M M1 (M 97 21) ∧ TK M1 ∧ M 97 13 ≤ M1 97 13))) := by
  refine Con.ofG rfl (Nat.le_of_ble_eq_true rfl) ?_
  show G X 6 RX10 cX10_readExpression 3 none (Qv (fun M1 => IM M1 ∧ Fr (fun c => c = 97 ∨ (108 ≤ c ∧ c ≤ 111)) M M1 ∧ M1 97 12 = M 97 12 ∧ M1 97 19 = M 97 19 ∧ (SI M1 (M 97 21) ∧ RX M1 (M 97 21) ∧ LO M M1 (M 97 21) ∧ TK M1 ∧ M 97 13 ≤ M1 97 13))) 0 [(0, vr X 97), (1, vi a)] [] M
  have p12 := hi.2.2.2.1
  have tb0 := htk.b
  refine g_aload_n (pc' := 1) 0 dX10_readExpression_0 rfl rfl ?_
  refine g_iconst (pc' := 2) dX10_readExpression_1 rfl ?_
  refine g_putI (pc' := 5) dX10_readExpression_2 rfl p_X10_194 rfl rfl (by decide) (fun M1 hM1 => ?_)
  have iM1 : IM M1 := IM.wr hi hM1 (by unfold okv; first | decide | omega)
  have fM1 : Fr (fun c => c = 97 ∨ (108 ≤ c ∧ c ≤ 111)) M M1 := Fr.wr Fr.rf hM1 (by first | decide | omega | (dsimp only; omega))
  have q97_12_M1 : (M1 97 12 = M 97 12) := (show M1 97 12 = M 97 12 by rw [hM1]; exact mu_ne _ _ (by first | decide | omega))
  have q97_19_M1 : (M1 97 19 = M 97 19) := (show M1 97 19 = M 97 19 by rw [hM1]; exact mu_ne _ _ (by first | decide | omega))
  have wM1_97_13 : M1 97 13 = M 97 13 := by rw [hM1]; exact mu_ne _ _ (by first | decide | omega)
  have wM1_97_14 : M1 97 14 = M 97 14 := by rw [hM1]; exact mu_ne _ _ (by first | decide | omega)
  have wM1_97_15 : M1 97 15 = M 97 15 := by rw [hM1]; exact mu_ne _ _ (by first | decide | omega)
  have wM1_97_18 : M1 97 18 = M 97 18 := by rw [hM1]; exact mu_ne _ _ (by first | decide | omega)
  have wM1_97_21 : M1 97 21 = M 97 21 := by rw [hM1]; exact mu_ne _ _ (by first | decide | omega)
  have xM1_97_27 : M1 97 27 = 0 := by rw [hM1]; exact mu_at _ _ _ _
  have CM1_108 : M1 108 = M 108 := by rw [hM1, mu_cell _ _ (by decide)]
  have CM1_109 : M1 109 = M 109 := by rw [hM1, mu_cell _ _ (by decide)]
  have CM1_110 : M1 110 = M 110 := by rw [hM1, mu_cell _ _ (by decide)]
  have CM1_111 : M1 111 = M 111 := by rw [hM1, mu_cell _ _ (by decide)]
  have tkM1 : TK M1 := TK.eq htk (show M1 97 12 = M 97 12 by rw [hM1]; exact mu_ne _ _ (by first | decide | omega)) (show M1 97 13 = M 97 13 by rw [hM1]; exact mu_ne _ _ (by first | decide | omega)) (show M1 97 14 = M 97 14 by rw [hM1]; exact mu_ne _ _ (by first | decide | omega)) (show M1 97 15 = M 97 15 by rw [hM1]; exact mu_ne _ _ (by first | decide | omega)) (show M1 97 16 = M 97 16 by rw [hM1]; exact mu_ne _ _ (by first | decide | omega))
  refine g_aload_n (pc' := 6) 0 dX10_readExpression_5 rfl rfl ?_
  refine g_iconst (pc' := 7) dX10_readExpression_6 rfl ?_
  refine g_putI (pc' := 10) dX10_readExpression_7 rfl p_X10_212 rfl rfl (by decide) (fun M2 hM2 => ?_)
  have iM2 : IM M2 := IM.wr iM1 hM2 (by unfold okv; first | decide | omega)
  have fM2 : Fr (fun c => c = 97 ∨ (108 ≤ c ∧ c ≤ 111)) M M2 := Fr.wr fM1 hM2 (by first | decide | omega | (dsimp only; omega))
  have q97_12_M2 : (M2 97 12 = M 97 12) := (show M2 97 12 = M1 97 12 by rw [hM2]; exact mu_ne _ _ (by first | decide | omega)).trans q97_12_M1
  have q97_19_M2 : (M2 97 19 = M 97 19) := (show M2 97 19 = M1 97 19 by rw [hM2]; exact mu_ne _ _ (by first | decide | omega)).trans q97_19_M1
  have wM2_97_13 : M2 97 13 = M1 97 13 := by rw [hM2]; exact mu_ne _ _ (by first | decide | omega)
  have wM2_97_14 : M2 97 14 = M1 97 14 := by rw [hM2]; exact mu_ne _ _ (by first | decide | omega)
  have wM2_97_15 : M2 97 15 = M1 97 15 := by rw [hM2]; exact mu_ne _ _ (by first | decide | omega)
  have wM2_97_18 : M2 97 18 = M1 97 18 := by rw [hM2]; exact mu_ne _ _ (by first | decide | omega)
  have wM2_97_21 : M2 97 21 = M1 97 21 := by rw [hM2]; exact mu_ne _ _ (by first | decide | omega)
  have wM2_97_27 : M2 97 27 = M1 97 27 := by rw [hM2]; exact mu_ne _ _ (by first | decide | omega)
  have xM2_97_27 : M2 97 27 = 0 := (show M2 97 27 = M1 97 27 by rw [hM2]; exact mu_ne _ _ (by first | decide | omega)).trans xM1_97_27
  have xM2_97_28 : M2 97 28 = 0 := by rw [hM2]; exact mu_at _ _ _ _
  have CM2_108 : M2 108 = M 108 := by rw [hM2, mu_cell _ _ (by decide), CM1_108]
  have CM2_109 : M2 109 = M 109 := by rw [hM2, mu_cell _ _ (by decide), CM1_109]
  have CM2_110 : M2 110 = M 110 := by rw [hM2, mu_cell _ _ (by decide), CM1_110]
  have CM2_111 : M2 111 = M 111 := by rw [hM2, mu_cell _ _ (by decide), CM1_111]
  have tkM2 : TK M2 := TK.eq tkM1 (show M2 97 12 = M1 97 12 by rw [hM2]; exact mu_ne _ _ (by first | decide | omega)) (show M2 97 13 = M1 97 13 by rw [hM2]; exact mu_ne _ _ (by first | decide | omega)) (show M2 97 14 = M1 97 14 by rw [hM2]; exact mu_ne _ _ (by first | decide | omega)) (show M2 97 15 = M1 97 15 by rw [hM2]; exact mu_ne _ _ (by first | decide | omega)) (show M2 97 16 = M1 97 16 by rw [hM2]; exact mu_ne _ _ (by first | decide | omega))
  refine g_iload_n (pc' := 11) 1 dX10_readExpression_10 rfl rfl ?_
  refine g_if_eq (pc' := 14) (tgt := 18) ha dX10_readExpression_11 rfl rfl (fun c3 => ?_) (fun c3 => ?_)
  · refine g_iconst (pc' := 19) dX10_readExpression_18 rfl ?_
    refine g_istore_n (pc' := 20) (i := 2) (L' := [(2, vi 1), (0, vr X 97), (1, vi a)]) dX10_readExpression_19 rfl rfl (by decide) rfl ?_
    refine g_sub [0, 1, 2] rfl ?_
    exact l_X10_readExpression_20 X M hi a ha htk hbad hnc _ 1 M2 iM2 fM2 q97_12_M2 q97_19_M2 (by omega) (PS.mk_ (q := 0) (SI.zero (by omega) (by omega) (by omega) (by omega)) (HI.zero (by omega) (by omega)) (SQ.zero (by omega)) (by omega)) (LO.eq CM2_108 CM2_109) tkM2 (by omega) rfl
  · refine g_iconst (pc' := 15) dX10_readExpression_14 rfl ?_
    refine g_goto (tgt := 19) dX10_readExpression_15 rfl ?_
    refine g_istore_n (pc' := 20) (i := 2) (L' := [(2, vi 0), (0, vr X 97), (1, vi a)]) dX10_readExpression_19 rfl rfl (by decide) rfl ?_
    refine g_sub [0, 1, 2] rfl ?_
    exact l_X10_readExpression_20 X M hi a ha htk hbad hnc _ 0 M2 iM2 fM2 q97_12_M2 q97_19_M2 (by omega) (PS.mk_ (q := 0) (SI.zero (by omega) (by omega) (by omega) (by omega)) (HI.zero (by omega) (by omega)) (SQ.zero (by omega)) (by omega)) (LO.eq CM2_108 CM2_109) tkM2 (by omega) rfl
