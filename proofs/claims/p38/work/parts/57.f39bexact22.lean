set_option maxHeartbeats 4000000 in
set_option maxRecDepth 100000 in
theorem c_X4_write_y (X : Cx) (M : Mm) (hi : IC M) (a : Int) (ha : inI a) (b : Int) (hb : inI b) : Con X 0 yX4_write cX4_write 3 (some .int) [vr X 37, vi a, vi b] M (Qi (fun r M1 => IC M1 ∧ Fr (fun c => c = 37 ∨ c = 39 ∨ c = 40) M M1 ∧ M1 37 1 = M 37 1 ∧ ((-1 ≤ r ∧ r ≤ 399) ∧ ((0 ≤ M 37 4 ∧ M 37 4 < 400) → r = M 37 4 ∧ M1 37 4 = M 37 4 + 1 ∧ M1 39 = ms (M 39) (M 37 4).toNat a ∧ M1 40 = ms (M 40) (M 37 4).toNat b)))) := by
  refine Con.ofG rfl (Nat.le_of_ble_eq_true rfl) ?_
  show G X 0 RX4 cX4_write 3 (some .int) (Qi (fun r M1 => IC M1 ∧ Fr (fun c => c = 37 ∨ c = 39 ∨ c = 40) M M1 ∧ M1 37 1 = M 37 1 ∧ ((-1 ≤ r ∧ r ≤ 399) ∧ ((0 ≤ M 37 4 ∧ M 37 4 < 400) → r = M 37 4 ∧ M1 37 4 = M 37 4 + 1 ∧ M1 39 = ms (M 39) (M 37 4).toNat a ∧ M1 40 = ms (M 40) (M 37 4).toNat b)))) 0 [(0, vr X 37), (1, vi a), (2, vi b)] [] M
  refine g_aload_n (pc' := 1) 0 dX4_write_0 rfl rfl ?_
  refine g_getI (pc' := 4) dX4_write_1 rfl f_X4_25 rfl rfl (fun v1 ev1 rv1 => ?_)
  have bv1 : 0 ≤ v1 ∧ v1 ≤ 400 := by rw [ev1]; exact hi.2.2.2.1.1
  have av1 : v1 = M 37 4 := ev1
  refine g_sipush (pc' := 7) (v := 400) dX4_write_4 rfl (by decide) ?_
  refine g_ic_lt (pc' := 10) (tgt := 12) rv1 (by decide) dX4_write_7 rfl rfl (fun c2 => ?_) (fun c2 => ?_)
  · refine g_aload_n (pc' := 13) 0 dX4_write_12 rfl rfl ?_
    refine g_getR (pc' := 16) dX4_write_13 rfl f_X4_17 rfl rfl ?_
    refine g_aload_n (pc' := 17) 0 dX4_write_16 rfl rfl ?_
    refine g_getI (pc' := 20) dX4_write_17 rfl f_X4_25 rfl rfl (fun v3 ev3 rv3 => ?_)
    obtain rfl : v1 = v3 := ev1.trans ev3.symm
    refine g_iload_n (pc' := 21) 1 dX4_write_20 rfl rfl ?_
    refine g_iast (pc' := 22) dX4_write_21 rfl rfl (by omega) (by omega) ha (fun M4 hM4 => ?_)
    have iM4 : IC M4 := IC.wr hi hM4 (by unfold okw isT; first | decide | omega)
    have fM4 : Fr (fun c => c = 37 ∨ c = 39 ∨ c = 40) M M4 := Fr.wr Fr.rf hM4 (by first | decide | omega | (dsimp only; omega))
    have q37_1_M4 : id (M4 37 1 = M 37 1) := (show M4 37 1 = M 37 1 by rw [hM4]; exact mu_ne _ _ (by first | decide | omega))
    have q37_4_M4 : (M4 37 4 = M 37 4) := (show M4 37 4 = M 37 4 by rw [hM4]; exact mu_ne _ _ (by first | decide | omega))
    have wM4_37_4 : M4 37 4 = M 37 4 := by rw [hM4]; exact mu_ne _ _ (by first | decide | omega)
    have c39M4 : M4 39 = ms (M 39) v1.toNat a := by rw [hM4, mu_is]
    have c40M4 : M4 40 = M 40 := (show M4 40 = M 40 by rw [hM4]; exact mu_cell _ _ (by decide))
    refine g_aload_n (pc' := 23) 0 dX4_write_22 rfl rfl ?_
    refine g_getR (pc' := 26) dX4_write_23 rfl f_X4_21 rfl rfl ?_
    refine g_aload_n (pc' := 27) 0 dX4_write_26 rfl rfl ?_
    refine g_getI (pc' := 30) dX4_write_27 rfl f_X4_25 rfl rfl (fun v5 ev5 rv5 => ?_)
    have bv5 : 0 ≤ v5 ∧ v5 ≤ 400 := by rw [ev5]; exact iM4.2.2.2.1.1
    have av5 : v5 = M 37 4 := ev5.trans q37_4_M4
    obtain rfl : v1 = v5 := av1.trans av5.symm
    refine g_iload_n (pc' := 31) 2 dX4_write_30 rfl rfl ?_
    refine g_iast (pc' := 32) dX4_write_31 rfl rfl (by omega) (by omega) hb (fun M6 hM6 => ?_)
    have iM6 : IC M6 := IC.wr iM4 hM6 (by unfold okw isT; first | decide | omega)
    have fM6 : Fr (fun c => c = 37 ∨ c = 39 ∨ c = 40) M M6 := Fr.wr fM4 hM6 (by first | decide | omega | (dsimp only; omega))
    have q37_1_M6 : id (M6 37 1 = M 37 1) := (show M6 37 1 = M4 37 1 by rw [hM6]; exact mu_ne _ _ (by first | decide | omega)).trans q37_1_M4
    have q37_4_M6 : (M6 37 4 = M 37 4) := (show M6 37 4 = M4 37 4 by rw [hM6]; exact mu_ne _ _ (by first | decide | omega)).trans q37_4_M4
    have wM6_37_4 : M6 37 4 = M4 37 4 := by rw [hM6]; exact mu_ne _ _ (by first | decide | omega)
    have c39M6 : M6 39 = ms (M 39) v1.toNat a := (show M6 39 = M4 39 by rw [hM6]; exact mu_cell _ _ (by decide)).trans c39M4
    have c40M6 : M6 40 = ms (M 40) v1.toNat b := by rw [hM6, mu_is, c40M4]
    refine g_aload_n (pc' := 33) 0 dX4_write_32 rfl rfl ?_
    refine g_dup (pc' := 34) dX4_write_33 rfl rfl ?_
    refine g_getI (pc' := 37) dX4_write_34 rfl f_X4_25 rfl rfl (fun v7 ev7 rv7 => ?_)
    have bv7 : 0 ≤ v7 ∧ v7 ≤ 400 := by rw [ev7]; exact iM6.2.2.2.1.1
    have av7 : v7 = M 37 4 := ev7.trans q37_4_M6
    obtain rfl : v1 = v7 := av1.trans av7.symm
    refine g_iconst (pc' := 38) dX4_write_37 rfl ?_
    refine g_iadd (pc' := 39) dX4_write_38 rfl ?_
    refine g_putI (pc' := 42) dX4_write_39 rfl p_X4_25 rfl rfl ⟨by omega, by omega⟩ (fun M8 hM8 => ?_)
    have iM8 : IC M8 := IC.wr iM6 hM8 (by unfold okw isT; first | decide | omega)
    have fM8 : Fr (fun c => c = 37 ∨ c = 39 ∨ c = 40) M M8 := Fr.wr fM6 hM8 (by first | decide | omega | (dsimp only; omega))
    have q37_1_M8 : id (M8 37 1 = M 37 1) := (show M8 37 1 = M6 37 1 by rw [hM8]; exact mu_ne _ _ (by first | decide | omega)).trans q37_1_M6
    have xM8_37_4 : M8 37 4 = v1 + 1 := by rw [hM8]; exact mu_at _ _ _ _
    have c39M8 : M8 39 = ms (M 39) v1.toNat a := (show M8 39 = M6 39 by rw [hM8]; exact mu_cell _ _ (by decide)).trans c39M6
    have c40M8 : M8 40 = ms (M 40) v1.toNat b := (show M8 40 = M6 40 by rw [hM8]; exact mu_cell _ _ (by decide)).trans c40M6
    refine g_aload_n (pc' := 43) 0 dX4_write_42 rfl rfl ?_
    refine g_getI (pc' := 46) dX4_write_43 rfl f_X4_25 rfl rfl (fun v9 ev9 rv9 => ?_)
    have bv9 : 0 ≤ v9 ∧ v9 ≤ 400 := by rw [ev9]; exact iM8.2.2.2.1.1
    have yv9 : v9 = v1 + 1 := ev9.trans xM8_37_4
    refine g_iconst (pc' := 47) dX4_write_46 rfl ?_
    refine g_isub (pc' := 48) dX4_write_47 rfl ?_
    refine g_ireturn dX4_write_48 ?_
    exact ⟨iM8, fM8, q37_1_M8, by omega, fun _ => ⟨by omega, by omega, by rw [c39M8, show v1 = M 37 4 by omega], by rw [c40M8, show v1 = M 37 4 by omega]⟩⟩
  · refine g_iconst (pc' := 11) dX4_write_10 rfl ?_
    refine g_ireturn dX4_write_11 ?_
    exact ⟨hi, Fr.rf, rfl, by omega, fun q => by omega⟩
set_option maxHeartbeats 4000000 in
set_option maxRecDepth 100000 in
theorem c_X4_leadHere_y (X : Cx) (M : Mm) (hi : IC M) (a : Int) (ha : inI a) : Con X 0 yX4_leadHere cX4_leadHere 2 none [vr X 37, vi a] M (Qv (fun M1 => IC M1 ∧ Fr (fun c => c = 40) M M1 ∧ (M1 37 4 = M 37 4 ∧ M1 39 = M 39 ∧ ((0 ≤ a ∧ a < M 37 4) → M1 40 = ms (M 40) a.toNat (M 37 4))))) := by
  refine Con.ofG rfl (Nat.le_of_ble_eq_true rfl) ?_
  show G X 0 RX4 cX4_leadHere 2 none (Qv (fun M1 => IC M1 ∧ Fr (fun c => c = 40) M M1 ∧ (M1 37 4 = M 37 4 ∧ M1 39 = M 39 ∧ ((0 ≤ a ∧ a < M 37 4) → M1 40 = ms (M 40) a.toNat (M 37 4))))) 0 [(0, vr X 37), (1, vi a)] [] M
  refine g_iload_n (pc' := 1) 1 dX4_leadHere_0 rfl rfl ?_
  refine g_if_lt (pc' := 4) (tgt := 22) ha dX4_leadHere_1 rfl rfl (fun c1 => ?_) (fun c1 => ?_)
  · refine g_vreturn dX4_leadHere_22 ?_
    exact ⟨hi, Fr.rf, rfl, rfl, fun q => absurd q (by omega)⟩
  · refine g_iload_n (pc' := 5) 1 dX4_leadHere_4 rfl rfl ?_
    refine g_aload_n (pc' := 6) 0 dX4_leadHere_5 rfl rfl ?_
    refine g_getI (pc' := 9) dX4_leadHere_6 rfl f_X4_25 rfl rfl (fun v2 ev2 rv2 => ?_)
    have bv2 : 0 ≤ v2 ∧ v2 ≤ 400 := by rw [ev2]; exact hi.2.2.2.1.1
    have av2 : v2 = M 37 4 := ev2
    refine g_ic_ge (pc' := 12) (tgt := 22) ha rv2 dX4_leadHere_9 rfl rfl (fun c3 => ?_) (fun c3 => ?_)
    · refine g_vreturn dX4_leadHere_22 ?_
      exact ⟨hi, Fr.rf, rfl, rfl, fun q => absurd q (by omega)⟩
    · refine g_aload_n (pc' := 13) 0 dX4_leadHere_12 rfl rfl ?_
      refine g_getR (pc' := 16) dX4_leadHere_13 rfl f_X4_21 rfl rfl ?_
      refine g_iload_n (pc' := 17) 1 dX4_leadHere_16 rfl rfl ?_
      refine g_aload_n (pc' := 18) 0 dX4_leadHere_17 rfl rfl ?_
      refine g_getI (pc' := 21) dX4_leadHere_18 rfl f_X4_25 rfl rfl (fun v4 ev4 rv4 => ?_)
      obtain rfl : v2 = v4 := ev2.trans ev4.symm
      refine g_iast (pc' := 22) dX4_leadHere_21 rfl rfl (by omega) (by omega) rv2 (fun M5 hM5 => ?_)
      have iM5 : IC M5 := IC.wr hi hM5 (by unfold okw isT; first | decide | omega)
      have fM5 : Fr (fun c => c = 40) M M5 := Fr.wr Fr.rf hM5 (by first | decide | omega | (dsimp only; omega))
      have q37_4_M5 : (M5 37 4 = M 37 4) := (show M5 37 4 = M 37 4 by rw [hM5]; exact mu_ne _ _ (by first | decide | omega))
      have wM5_37_4 : M5 37 4 = M 37 4 := by rw [hM5]; exact mu_ne _ _ (by first | decide | omega)
      have c39M5 : M5 39 = M 39 := by rw [hM5]; exact mu_cell _ _ (by decide)
      have c40M5 : M5 40 = ms (M 40) a.toNat v2 := by rw [hM5, mu_is]
      refine g_vreturn dX4_leadHere_22 ?_
      exact ⟨iM5, fM5, by omega, c39M5, fun _ => by rw [c40M5, show v2 = M 37 4 by omega]⟩
set_option maxHeartbeats 4000000 in
set_option maxRecDepth 100000 in
theorem c_X2_takeComparison_y (X : Cx) (M : Mm) (hi : IC M) (K W : Nat → Int) (m i : Nat) (hts : TS M K W m) (hat : M 31 7 = (i : Int)) (him : i ≤ m) (lv : Int) (hlv : M 30 2 = lv) (hsl : 0 ≤ M 37 4 ∧ M 37 4 ≤ (i : Int)) : Con X 1 yX2_takeComparison cX2_takeComparison 1 (some .int) [vr X 30] M (Qi (fun r M1 => IC M1 ∧ Fr (fun c => c = 31) M M1 ∧ M1 31 1 = M 31 1 ∧ M1 37 1 = M 37 1 ∧ (((r = 10 ∧ isSg K W i 60 ∧ M1 31 7 = ((i + 1 : Nat) : Int) ∧ i < m) ∨ (r = 11 ∧ isSg K W i 62 ∧ M1 31 7 = ((i + 1 : Nat) : Int) ∧ i < m) ∨ (r = 12 ∧ isSg K W i 61 ∧ M1 31 7 = ((i + 1 : Nat) : Int) ∧ i < m) ∨ (r = 0 ∧ ¬ isSg K W i 60 ∧ ¬ isSg K W i 62 ∧ ¬ isSg K W i 61 ∧ M1 31 7 = (i : Int))) ∧ M1 30 2 = lv))) := by
  refine Con.ofG rfl (Nat.le_of_ble_eq_true rfl) ?_
  show G X 1 RX2 cX2_takeComparison 1 (some .int) (Qi (fun r M1 => IC M1 ∧ Fr (fun c => c = 31) M M1 ∧ M1 31 1 = M 31 1 ∧ M1 37 1 = M 37 1 ∧ (((r = 10 ∧ isSg K W i 60 ∧ M1 31 7 = ((i + 1 : Nat) : Int) ∧ i < m) ∨ (r = 11 ∧ isSg K W i 62 ∧ M1 31 7 = ((i + 1 : Nat) : Int) ∧ i < m) ∨ (r = 12 ∧ isSg K W i 61 ∧ M1 31 7 = ((i + 1 : Nat) : Int) ∧ i < m) ∨ (r = 0 ∧ ¬ isSg K W i 60 ∧ ¬ isSg K W i 62 ∧ ¬ isSg K W i 61 ∧ M1 31 7 = (i : Int))) ∧ M1 30 2 = lv))) 0 [(0, vr X 30)] [] M
  refine g_aload_n (pc' := 1) 0 dX2_takeComparison_0 rfl rfl ?_
  refine g_getR (pc' := 4) dX2_takeComparison_1 rfl f_X2_12 rfl rfl ?_
  refine g_bipush (pc' := 6) (v := 60) dX2_takeComparison_4 rfl (by decide) ?_
  refine g_callVi (pc' := 9) (As := [vi 60]) (b := 31) (S := []) dX2_takeComparison_6 rfl m_X2_50 w_X8_takeSign (c_X8_takeSign_x X M hi 60 (by decide) K W m i hts hat him) rfl ⟨_, _, _, rfl, rfl, rfl⟩ (by decide) (by decide) rfl (Nat.le_of_ble_eq_true rfl) (fun z2 M3 q1 => ?_)
  obtain ⟨iM3, fM30, eM3_31_1, pM3⟩ := q1
  have fM3 : Fr (fun c => c = 31) M M3 := Fr.tr Fr.rf fM30 (fun _ z => z)
  have q31_1_M3 : id (M3 31 1 = M 31 1) := eM3_31_1
  have q37_1_M3 : id (M3 37 1 = M 37 1) := (congrFun (fM30 37 (by first | decide | omega | (dsimp only; omega))) 1)
  have wM3_30_2 : M3 30 2 = M 30 2 := (congrFun (fM30 30 (by first | decide | omega | (dsimp only; omega))) 2)
  have wM3_37_4 : M3 37 4 = M 37 4 := (congrFun (fM30 37 (by first | decide | omega | (dsimp only; omega))) 4)
  clear eM3_31_1
  have tsM3 : TS M3 K W m := TS.fr hts fM30 (fun c h1 h2 => by first | omega | (dsimp only; omega))
  have k39M3 : M3 39 = M 39 := (fM30 39 (by decide))
  have k40M3 : M3 40 = M 40 := (fM30 40 (by decide))
  refine g_if_eq (pc' := 12) (tgt := 15) ⟨by omega, by omega⟩ dX2_takeComparison_9 rfl rfl (fun c4 => ?_) (fun c4 => ?_)
  · refine g_aload_n (pc' := 16) 0 dX2_takeComparison_15 rfl rfl ?_
    refine g_getR (pc' := 19) dX2_takeComparison_16 rfl f_X2_12 rfl rfl ?_
    refine g_bipush (pc' := 21) (v := 62) dX2_takeComparison_19 rfl (by decide) ?_
    refine g_callVi (pc' := 24) (As := [vi 62]) (b := 31) (S := []) dX2_takeComparison_21 rfl m_X2_50 w_X8_takeSign (c_X8_takeSign_x X M3 iM3 62 (by decide) K W m i tsM3 (by omega) (by omega)) rfl ⟨_, _, _, rfl, rfl, rfl⟩ (by decide) (by decide) rfl (Nat.le_of_ble_eq_true rfl) (fun z6 M7 q5 => ?_)
    obtain ⟨iM7, fM70, eM7_31_1, pM7⟩ := q5
    have fM7 : Fr (fun c => c = 31) M M7 := Fr.tr fM3 fM70 (fun _ z => z)
    have q31_1_M7 : id (M7 31 1 = M 31 1) := eM7_31_1.trans q31_1_M3
    have q37_1_M7 : id (M7 37 1 = M 37 1) := (congrFun (fM70 37 (by first | decide | omega | (dsimp only; omega))) 1).trans q37_1_M3
    have wM7_30_2 : M7 30 2 = M3 30 2 := (congrFun (fM70 30 (by first | decide | omega | (dsimp only; omega))) 2)
    have wM7_37_4 : M7 37 4 = M3 37 4 := (congrFun (fM70 37 (by first | decide | omega | (dsimp only; omega))) 4)
    clear eM7_31_1
    have tsM7 : TS M7 K W m := TS.fr tsM3 fM70 (fun c h1 h2 => by first | omega | (dsimp only; omega))
    have k39M7 : M7 39 = M 39 := (fM70 39 (by decide)).trans k39M3
    have k40M7 : M7 40 = M 40 := (fM70 40 (by decide)).trans k40M3
    refine g_if_eq (pc' := 27) (tgt := 30) ⟨by omega, by omega⟩ dX2_takeComparison_24 rfl rfl (fun c8 => ?_) (fun c8 => ?_)
    · refine g_aload_n (pc' := 31) 0 dX2_takeComparison_30 rfl rfl ?_
      refine g_getR (pc' := 34) dX2_takeComparison_31 rfl f_X2_12 rfl rfl ?_
      refine g_bipush (pc' := 36) (v := 61) dX2_takeComparison_34 rfl (by decide) ?_
      refine g_callVi (pc' := 39) (As := [vi 61]) (b := 31) (S := []) dX2_takeComparison_36 rfl m_X2_50 w_X8_takeSign (c_X8_takeSign_x X M7 iM7 61 (by decide) K W m i tsM7 (by omega) (by omega)) rfl ⟨_, _, _, rfl, rfl, rfl⟩ (by decide) (by decide) rfl (Nat.le_of_ble_eq_true rfl) (fun z10 M11 q9 => ?_)
      obtain ⟨iM11, fM110, eM11_31_1, pM11⟩ := q9
      have fM11 : Fr (fun c => c = 31) M M11 := Fr.tr fM7 fM110 (fun _ z => z)
      have q31_1_M11 : id (M11 31 1 = M 31 1) := eM11_31_1.trans q31_1_M7
      have q37_1_M11 : id (M11 37 1 = M 37 1) := (congrFun (fM110 37 (by first | decide | omega | (dsimp only; omega))) 1).trans q37_1_M7
      have wM11_30_2 : M11 30 2 = M7 30 2 := (congrFun (fM110 30 (by first | decide | omega | (dsimp only; omega))) 2)
      have wM11_37_4 : M11 37 4 = M7 37 4 := (congrFun (fM110 37 (by first | decide | omega | (dsimp only; omega))) 4)
      clear eM11_31_1
      have tsM11 : TS M11 K W m := TS.fr tsM7 fM110 (fun c h1 h2 => by first | omega | (dsimp only; omega))
      have k39M11 : M11 39 = M 39 := (fM110 39 (by decide)).trans k39M7
      have k40M11 : M11 40 = M 40 := (fM110 40 (by decide)).trans k40M7
      refine g_if_eq (pc' := 42) (tgt := 47) ⟨by omega, by omega⟩ dX2_takeComparison_39 rfl rfl (fun c12 => ?_) (fun c12 => ?_)
      · refine g_iconst (pc' := 48) dX2_takeComparison_47 rfl ?_
        refine g_ireturn dX2_takeComparison_48 ?_
        exact ⟨iM11, fM11, q31_1_M11, q37_1_M11, by omega⟩
      · refine g_bipush (pc' := 44) (v := 12) dX2_takeComparison_42 rfl (by decide) ?_
        refine g_goto (tgt := 48) dX2_takeComparison_44 rfl ?_
        refine g_ireturn dX2_takeComparison_48 ?_
        exact ⟨iM11, fM11, q31_1_M11, q37_1_M11, by omega⟩
    · refine g_bipush (pc' := 29) (v := 11) dX2_takeComparison_27 rfl (by decide) ?_
      refine g_ireturn dX2_takeComparison_29 ?_
      exact ⟨iM7, fM7, q31_1_M7, q37_1_M7, by omega⟩
  · refine g_bipush (pc' := 14) (v := 10) dX2_takeComparison_12 rfl (by decide) ?_
    refine g_ireturn dX2_takeComparison_14 ?_
    exact ⟨iM3, fM3, q31_1_M3, q37_1_M3, by omega⟩
set_option maxHeartbeats 4000000 in
set_option maxRecDepth 100000 in
theorem c_X2_takeSumSign_y (X : Cx) (M : Mm) (hi : IC M) (K W : Nat → Int) (m i : Nat) (hts : TS M K W m) (hat : M 31 7 = (i : Int)) (him : i ≤ m) (lv : Int) (hlv : M 30 2 = lv) (hsl : 0 ≤ M 37 4 ∧ M 37 4 ≤ (i : Int)) : Con X 1 yX2_takeSumSign cX2_takeSumSign 1 (some .int) [vr X 30] M (Qi (fun r M1 => IC M1 ∧ Fr (fun c => c = 31) M M1 ∧ M1 31 1 = M 31 1 ∧ M1 37 1 = M 37 1 ∧ (((r = 6 ∧ isSg K W i 43 ∧ M1 31 7 = ((i + 1 : Nat) : Int) ∧ i < m) ∨ (r = 7 ∧ isSg K W i 45 ∧ M1 31 7 = ((i + 1 : Nat) : Int) ∧ i < m) ∨ (r = 0 ∧ ¬ isSg K W i 43 ∧ ¬ isSg K W i 45 ∧ M1 31 7 = (i : Int))) ∧ M1 30 2 = lv))) := by
  refine Con.ofG rfl (Nat.le_of_ble_eq_true rfl) ?_
  show G X 1 RX2 cX2_takeSumSign 1 (some .int) (Qi (fun r M1 => IC M1 ∧ Fr (fun c => c = 31) M M1 ∧ M1 31 1 = M 31 1 ∧ M1 37 1 = M 37 1 ∧ (((r = 6 ∧ isSg K W i 43 ∧ M1 31 7 = ((i + 1 : Nat) : Int) ∧ i < m) ∨ (r = 7 ∧ isSg K W i 45 ∧ M1 31 7 = ((i + 1 : Nat) : Int) ∧ i < m) ∨ (r = 0 ∧ ¬ isSg K W i 43 ∧ ¬ isSg K W i 45 ∧ M1 31 7 = (i : Int))) ∧ M1 30 2 = lv))) 0 [(0, vr X 30)] [] M
  refine g_aload_n (pc' := 1) 0 dX2_takeSumSign_0 rfl rfl ?_
  refine g_getR (pc' := 4) dX2_takeSumSign_1 rfl f_X2_12 rfl rfl ?_
  refine g_bipush (pc' := 6) (v := 43) dX2_takeSumSign_4 rfl (by decide) ?_
  refine g_callVi (pc' := 9) (As := [vi 43]) (b := 31) (S := []) dX2_takeSumSign_6 rfl m_X2_50 w_X8_takeSign (c_X8_takeSign_x X M hi 43 (by decide) K W m i hts hat him) rfl ⟨_, _, _, rfl, rfl, rfl⟩ (by decide) (by decide) rfl (Nat.le_of_ble_eq_true rfl) (fun z2 M3 q1 => ?_)
  obtain ⟨iM3, fM30, eM3_31_1, pM3⟩ := q1
  have fM3 : Fr (fun c => c = 31) M M3 := Fr.tr Fr.rf fM30 (fun _ z => z)
  have q31_1_M3 : id (M3 31 1 = M 31 1) := eM3_31_1
  have q37_1_M3 : id (M3 37 1 = M 37 1) := (congrFun (fM30 37 (by first | decide | omega | (dsimp only; omega))) 1)
  have wM3_30_2 : M3 30 2 = M 30 2 := (congrFun (fM30 30 (by first | decide | omega | (dsimp only; omega))) 2)
  have wM3_37_4 : M3 37 4 = M 37 4 := (congrFun (fM30 37 (by first | decide | omega | (dsimp only; omega))) 4)
  clear eM3_31_1
  have tsM3 : TS M3 K W m := TS.fr hts fM30 (fun c h1 h2 => by first | omega | (dsimp only; omega))
  have k39M3 : M3 39 = M 39 := (fM30 39 (by decide))
  have k40M3 : M3 40 = M 40 := (fM30 40 (by decide))
  refine g_if_eq (pc' := 12) (tgt := 15) ⟨by omega, by omega⟩ dX2_takeSumSign_9 rfl rfl (fun c4 => ?_) (fun c4 => ?_)
  · refine g_aload_n (pc' := 16) 0 dX2_takeSumSign_15 rfl rfl ?_
    refine g_getR (pc' := 19) dX2_takeSumSign_16 rfl f_X2_12 rfl rfl ?_
    refine g_bipush (pc' := 21) (v := 45) dX2_takeSumSign_19 rfl (by decide) ?_
    refine g_callVi (pc' := 24) (As := [vi 45]) (b := 31) (S := []) dX2_takeSumSign_21 rfl m_X2_50 w_X8_takeSign (c_X8_takeSign_x X M3 iM3 45 (by decide) K W m i tsM3 (by omega) (by omega)) rfl ⟨_, _, _, rfl, rfl, rfl⟩ (by decide) (by decide) rfl (Nat.le_of_ble_eq_true rfl) (fun z6 M7 q5 => ?_)
    obtain ⟨iM7, fM70, eM7_31_1, pM7⟩ := q5
    have fM7 : Fr (fun c => c = 31) M M7 := Fr.tr fM3 fM70 (fun _ z => z)
    have q31_1_M7 : id (M7 31 1 = M 31 1) := eM7_31_1.trans q31_1_M3
    have q37_1_M7 : id (M7 37 1 = M 37 1) := (congrFun (fM70 37 (by first | decide | omega | (dsimp only; omega))) 1).trans q37_1_M3
    have wM7_30_2 : M7 30 2 = M3 30 2 := (congrFun (fM70 30 (by first | decide | omega | (dsimp only; omega))) 2)
    have wM7_37_4 : M7 37 4 = M3 37 4 := (congrFun (fM70 37 (by first | decide | omega | (dsimp only; omega))) 4)
    clear eM7_31_1
    have tsM7 : TS M7 K W m := TS.fr tsM3 fM70 (fun c h1 h2 => by first | omega | (dsimp only; omega))
    have k39M7 : M7 39 = M 39 := (fM70 39 (by decide)).trans k39M3
    have k40M7 : M7 40 = M 40 := (fM70 40 (by decide)).trans k40M3
    refine g_if_eq (pc' := 27) (tgt := 32) ⟨by omega, by omega⟩ dX2_takeSumSign_24 rfl rfl (fun c8 => ?_) (fun c8 => ?_)
    · refine g_iconst (pc' := 33) dX2_takeSumSign_32 rfl ?_
      refine g_ireturn dX2_takeSumSign_33 ?_
      exact ⟨iM7, fM7, q31_1_M7, q37_1_M7, by omega⟩
    · refine g_bipush (pc' := 29) (v := 7) dX2_takeSumSign_27 rfl (by decide) ?_
      refine g_goto (tgt := 33) dX2_takeSumSign_29 rfl ?_
      refine g_ireturn dX2_takeSumSign_33 ?_
      exact ⟨iM7, fM7, q31_1_M7, q37_1_M7, by omega⟩
  · refine g_bipush (pc' := 14) (v := 6) dX2_takeSumSign_12 rfl (by decide) ?_
    refine g_ireturn dX2_takeSumSign_14 ?_
    exact ⟨iM3, fM3, q31_1_M3, q37_1_M3, by omega⟩
set_option maxHeartbeats 4000000 in
set_option maxRecDepth 100000 in
theorem c_X2_takeTermSign_y (X : Cx) (M : Mm) (hi : IC M) (K W : Nat → Int) (m i : Nat) (hts : TS M K W m) (hat : M 31 7 = (i : Int)) (him : i ≤ m) (lv : Int) (hlv : M 30 2 = lv) (hsl : 0 ≤ M 37 4 ∧ M 37 4 ≤ (i : Int)) : Con X 1 yX2_takeTermSign cX2_takeTermSign 1 (some .int) [vr X 30] M (Qi (fun r M1 => IC M1 ∧ Fr (fun c => c = 31) M M1 ∧ M1 31 1 = M 31 1 ∧ M1 37 1 = M 37 1 ∧ (((r = 8 ∧ isSg K W i 42 ∧ M1 31 7 = ((i + 1 : Nat) : Int) ∧ i < m) ∨ (r = 9 ∧ isSg K W i 47 ∧ M1 31 7 = ((i + 1 : Nat) : Int) ∧ i < m) ∨ (r = 0 ∧ ¬ isSg K W i 42 ∧ ¬ isSg K W i 47 ∧ M1 31 7 = (i : Int))) ∧ M1 30 2 = lv))) := by
  refine Con.ofG rfl (Nat.le_of_ble_eq_true rfl) ?_
  show G X 1 RX2 cX2_takeTermSign 1 (some .int) (Qi (fun r M1 => IC M1 ∧ Fr (fun c => c = 31) M M1 ∧ M1 31 1 = M 31 1 ∧ M1 37 1 = M 37 1 ∧ (((r = 8 ∧ isSg K W i 42 ∧ M1 31 7 = ((i + 1 : Nat) : Int) ∧ i < m) ∨ (r = 9 ∧ isSg K W i 47 ∧ M1 31 7 = ((i + 1 : Nat) : Int) ∧ i < m) ∨ (r = 0 ∧ ¬ isSg K W i 42 ∧ ¬ isSg K W i 47 ∧ M1 31 7 = (i : Int))) ∧ M1 30 2 = lv))) 0 [(0, vr X 30)] [] M
  refine g_aload_n (pc' := 1) 0 dX2_takeTermSign_0 rfl rfl ?_
  refine g_getR (pc' := 4) dX2_takeTermSign_1 rfl f_X2_12 rfl rfl ?_
  refine g_bipush (pc' := 6) (v := 42) dX2_takeTermSign_4 rfl (by decide) ?_
  refine g_callVi (pc' := 9) (As := [vi 42]) (b := 31) (S := []) dX2_takeTermSign_6 rfl m_X2_50 w_X8_takeSign (c_X8_takeSign_x X M hi 42 (by decide) K W m i hts hat him) rfl ⟨_, _, _, rfl, rfl, rfl⟩ (by decide) (by decide) rfl (Nat.le_of_ble_eq_true rfl) (fun z2 M3 q1 => ?_)
  obtain ⟨iM3, fM30, eM3_31_1, pM3⟩ := q1
  have fM3 : Fr (fun c => c = 31) M M3 := Fr.tr Fr.rf fM30 (fun _ z => z)
  have q31_1_M3 : id (M3 31 1 = M 31 1) := eM3_31_1
  have q37_1_M3 : id (M3 37 1 = M 37 1) := (congrFun (fM30 37 (by first | decide | omega | (dsimp only; omega))) 1)
  have wM3_30_2 : M3 30 2 = M 30 2 := (congrFun (fM30 30 (by first | decide | omega | (dsimp only; omega))) 2)
  have wM3_37_4 : M3 37 4 = M 37 4 := (congrFun (fM30 37 (by first | decide | omega | (dsimp only; omega))) 4)
  clear eM3_31_1
  have tsM3 : TS M3 K W m := TS.fr hts fM30 (fun c h1 h2 => by first | omega | (dsimp only; omega))
  have k39M3 : M3 39 = M 39 := (fM30 39 (by decide))
  have k40M3 : M3 40 = M 40 := (fM30 40 (by decide))
  refine g_if_eq (pc' := 12) (tgt := 15) ⟨by omega, by omega⟩ dX2_takeTermSign_9 rfl rfl (fun c4 => ?_) (fun c4 => ?_)
  · refine g_aload_n (pc' := 16) 0 dX2_takeTermSign_15 rfl rfl ?_
    refine g_getR (pc' := 19) dX2_takeTermSign_16 rfl f_X2_12 rfl rfl ?_
    refine g_bipush (pc' := 21) (v := 47) dX2_takeTermSign_19 rfl (by decide) ?_
    refine g_callVi (pc' := 24) (As := [vi 47]) (b := 31) (S := []) dX2_takeTermSign_21 rfl m_X2_50 w_X8_takeSign (c_X8_takeSign_x X M3 iM3 47 (by decide) K W m i tsM3 (by omega) (by omega)) rfl ⟨_, _, _, rfl, rfl, rfl⟩ (by decide) (by decide) rfl (Nat.le_of_ble_eq_true rfl) (fun z6 M7 q5 => ?_)
    obtain ⟨iM7, fM70, eM7_31_1, pM7⟩ := q5
    have fM7 : Fr (fun c => c = 31) M M7 := Fr.tr fM3 fM70 (fun _ z => z)
    have q31_1_M7 : id (M7 31 1 = M 31 1) := eM7_31_1.trans q31_1_M3
    have q37_1_M7 : id (M7 37 1 = M 37 1) := (congrFun (fM70 37 (by first | decide | omega | (dsimp only; omega))) 1).trans q37_1_M3
    have wM7_30_2 : M7 30 2 = M3 30 2 := (congrFun (fM70 30 (by first | decide | omega | (dsimp only; omega))) 2)
    have wM7_37_4 : M7 37 4 = M3 37 4 := (congrFun (fM70 37 (by first | decide | omega | (dsimp only; omega))) 4)
    clear eM7_31_1
    have tsM7 : TS M7 K W m := TS.fr tsM3 fM70 (fun c h1 h2 => by first | omega | (dsimp only; omega))
    have k39M7 : M7 39 = M 39 := (fM70 39 (by decide)).trans k39M3
    have k40M7 : M7 40 = M 40 := (fM70 40 (by decide)).trans k40M3
    refine g_if_eq (pc' := 27) (tgt := 32) ⟨by omega, by omega⟩ dX2_takeTermSign_24 rfl rfl (fun c8 => ?_) (fun c8 => ?_)
    · refine g_iconst (pc' := 33) dX2_takeTermSign_32 rfl ?_
      refine g_ireturn dX2_takeTermSign_33 ?_
      exact ⟨iM7, fM7, q31_1_M7, q37_1_M7, by omega⟩
    · refine g_bipush (pc' := 29) (v := 9) dX2_takeTermSign_27 rfl (by decide) ?_
      refine g_goto (tgt := 33) dX2_takeTermSign_29 rfl ?_
      refine g_ireturn dX2_takeTermSign_33 ?_
      exact ⟨iM7, fM7, q31_1_M7, q37_1_M7, by omega⟩
  · refine g_bipush (pc' := 14) (v := 8) dX2_takeTermSign_12 rfl (by decide) ?_
    refine g_ireturn dX2_takeTermSign_14 ?_
    exact ⟨iM3, fM3, q31_1_M3, q37_1_M3, by omega⟩
set_option maxHeartbeats 4000000 in
set_option maxRecDepth 100000 in
theorem c_X2_readGlass_y (X : Cx) (M : Mm) (hi : IC M) (a : Int) (ha : inI a) (b : Int) (hb : inI b) (K W : Nat → Int) (m i : Nat) (hts : TS M K W m) (hat : M 31 7 = (i : Int)) (him : i ≤ m) (lv : Int) (hlv : M 30 2 = lv) (hsl : 0 ≤ M 37 4 ∧ M 37 4 ≤ (i : Int)) (hb3 : 0 ≤ b ∧ b ≤ 3) : Con X 7 yX2_readGlass cX2_readGlass 4 (some .boolean) [vr X 30, vi a, vi b] M (Qi (fun r M1 => IC M1 ∧ Fr (fun c => c = 31 ∨ c = 37 ∨ c = 39 ∨ c = 40) M M1 ∧ M1 31 1 = M 31 1 ∧ M1 37 1 = M 37 1 ∧ (((r = 1 ∧ (K i = 2 ∧ W i ≤ 5) ∧ M1 31 7 = ((i + 1 : Nat) : Int) ∧ i < m ∧ M1 37 4 = M 37 4 + 1 ∧ M1 39 = ms (M 39) (M 37 4).toNat a ∧ M1 40 = ms (M 40) (M 37 4).toNat (W i * 4 + b)) ∨ (r = 0 ∧ ¬ (K i = 2 ∧ W i ≤ 5) ∧ M1 31 7 = (i : Int) ∧ M1 37 4 = M 37 4)) ∧ M1 30 2 = lv))) := by
  refine Con.ofG rfl (Nat.le_of_ble_eq_true rfl) ?_
  show G X 7 RX2 cX2_readGlass 4 (some .boolean) (Qi (fun r M1 => IC M1 ∧ Fr (fun c => c = 31 ∨ c = 37 ∨ c = 39 ∨ c = 40) M M1 ∧ M1 31 1 = M 31 1 ∧ M1 37 1 = M 37 1 ∧ (((r = 1 ∧ (K i = 2 ∧ W i ≤ 5) ∧ M1 31 7 = ((i + 1 : Nat) : Int) ∧ i < m ∧ M1 37 4 = M 37 4 + 1 ∧ M1 39 = ms (M 39) (M 37 4).toNat a ∧ M1 40 = ms (M 40) (M 37 4).toNat (W i * 4 + b)) ∨ (r = 0 ∧ ¬ (K i = 2 ∧ W i ≤ 5) ∧ M1 31 7 = (i : Int) ∧ M1 37 4 = M 37 4)) ∧ M1 30 2 = lv))) 0 [(0, vr X 30), (1, vi a), (2, vi b)] [] M
  have hm4 := hts.m4
  have hw0 : K i = 2 → 0 ≤ W i := fun z => (hts.num him z).2
  refine g_aload_n (pc' := 1) 0 dX2_readGlass_0 rfl rfl ?_
  refine g_getR (pc' := 4) dX2_readGlass_1 rfl f_X2_12 rfl rfl ?_
  refine g_iconst (pc' := 5) dX2_readGlass_4 rfl ?_
  refine g_iconst (pc' := 6) dX2_readGlass_5 rfl ?_
  refine g_callVi (pc' := 9) (As := [vi 0, vi 5]) (b := 31) (S := []) dX2_readGlass_6 rfl m_X2_87 w_X8_takeNumber (c_X8_takeNumber_x X M hi 0 (by decide) 5 (by decide) K W m i hts hat him (by omega)) rfl ⟨_, _, _, rfl, rfl, rfl⟩ (by decide) (by decide) rfl (Nat.le_of_ble_eq_true rfl) (fun z2 M3 q1 => ?_)
  obtain ⟨iM3, fM30, eM3_31_1, pM3⟩ := q1
  have fM3 : Fr (fun c => c = 31 ∨ c = 37 ∨ c = 39 ∨ c = 40) M M3 := Fr.tr Fr.rf fM30 fi_65
  have q31_1_M3 : id (M3 31 1 = M 31 1) := eM3_31_1
  have q37_1_M3 : id (M3 37 1 = M 37 1) := (congrFun (fM30 37 (by first | decide | omega | (dsimp only; omega))) 1)
  have wM3_30_2 : M3 30 2 = M 30 2 := (congrFun (fM30 30 (by first | decide | omega | (dsimp only; omega))) 2)
  have wM3_37_4 : M3 37 4 = M 37 4 := (congrFun (fM30 37 (by first | decide | omega | (dsimp only; omega))) 4)
  clear eM3_31_1
  have tsM3 : TS M3 K W m := TS.fr hts fM30 (fun c h1 h2 => by first | omega | (dsimp only; omega))
  have k39M3 : M3 39 = M 39 := (fM30 39 (by decide))
  have k40M3 : M3 40 = M 40 := (fM30 40 (by decide))
  refine g_istore_n (pc' := 10) (i := 3) (L' := [(3, vi z2), (0, vr X 30), (1, vi a), (2, vi b)]) dX2_readGlass_9 rfl rfl (by decide) rfl ?_
  refine g_iload_n (pc' := 11) 0 dX2_readGlass_10 rfl rfl ?_
  refine g_iconst (pc' := 12) dX2_readGlass_11 rfl ?_
  refine g_ic_ne (pc' := 15) (tgt := 17) ⟨by omega, by omega⟩ (by decide) dX2_readGlass_12 rfl rfl (fun c4 => ?_) (fun c4 => ?_)
  · refine g_aload_n (pc' := 18) 1 dX2_readGlass_17 rfl rfl ?_
    refine g_getR (pc' := 21) dX2_readGlass_18 rfl f_X2_21 rfl rfl ?_
    refine g_iload_n (pc' := 22) 2 dX2_readGlass_21 rfl rfl ?_
    refine g_iload_n (pc' := 23) 0 dX2_readGlass_22 rfl rfl ?_
    refine g_iconst (pc' := 24) dX2_readGlass_23 rfl ?_
    refine g_imul (pc' := 25) dX2_readGlass_24 rfl ?_
    refine g_iload_n (pc' := 26) 3 dX2_readGlass_25 rfl rfl ?_
    refine g_iadd (pc' := 27) dX2_readGlass_26 rfl ?_
    refine g_callVi (pc' := 30) (As := [vi a, vi ((z2 * 4) + b)]) (b := 37) (S := []) dX2_readGlass_27 rfl m_X2_129 w_X4_write (c_X4_write_y X M3 iM3 a ha ((z2 * 4) + b) ⟨by omega, by omega⟩) rfl ⟨_, _, _, rfl, rfl, rfl⟩ (by decide) (by decide) rfl (Nat.le_of_ble_eq_true rfl) (fun z6 M7 q5 => ?_)
    obtain ⟨iM7, fM70, eM7_37_1, pM7⟩ := q5
    have fM7 : Fr (fun c => c = 31 ∨ c = 37 ∨ c = 39 ∨ c = 40) M M7 := Fr.tr fM3 fM70 fi_66
    have q31_1_M7 : id (M7 31 1 = M 31 1) := (congrFun (fM70 31 (by first | decide | omega | (dsimp only; omega))) 1).trans q31_1_M3
    have q37_1_M7 : id (M7 37 1 = M 37 1) := eM7_37_1.trans q37_1_M3
    have wM7_30_2 : M7 30 2 = M3 30 2 := (congrFun (fM70 30 (by first | decide | omega | (dsimp only; omega))) 2)
    have wM7_31_7 : M7 31 7 = M3 31 7 := (congrFun (fM70 31 (by first | decide | omega | (dsimp only; omega))) 7)
    clear eM7_37_1
    have tsM7 : TS M7 K W m := TS.fr tsM3 fM70 (fun c h1 h2 => by first | omega | (dsimp only; omega))
    obtain ⟨wrM7, wzM7, w9M7, w0M7⟩ := pM7.2 (by omega)
    clear pM7
    have k39M7 : M7 39 = ms (M 39) (M3 37 4).toNat a := by rw [w9M7, k39M3]
    have k40M7 : M7 40 = ms (M 40) (M3 37 4).toNat ((z2 * 4) + b) := by rw [w0M7, k40M3]
    refine g_pop (pc' := 31) dX2_readGlass_30 rfl rfl ?_
    refine g_iconst (pc' := 32) dX2_readGlass_31 rfl ?_
    refine g_zreturn dX2_readGlass_32 (by omega) ?_
    exact ⟨iM7, fM7, q31_1_M7, q37_1_M7, Or.inl ⟨rfl, by omega, by omega, by omega, by omega, by rw [k39M7, show M3 37 4 = M 37 4 by omega], by rw [k40M7, show M3 37 4 = M 37 4 by omega, show (z2 * 4) + b = W i * 4 + b by omega]⟩, by omega⟩
  · refine g_iconst (pc' := 16) dX2_readGlass_15 rfl ?_
    refine g_zreturn dX2_readGlass_16 (by omega) ?_
    exact ⟨iM3, fM3, q31_1_M3, q37_1_M3, by omega, by omega⟩
set_option maxHeartbeats 4000000 in
set_option maxRecDepth 100000 in
theorem c_X2_readPart_y (X : Cx) (M : Mm) (hi : IC M) (b : Int) (hb : inI b) (K W : Nat → Int) (m i : Nat) (hts : TS M K W m) (hat : M 31 7 = (i : Int)) (him : i ≤ m) (lv : Int) (hlv : M 30 2 = lv) (hsl : 0 ≤ M 37 4 ∧ M 37 4 ≤ (i : Int)) (hb8 : 0 ≤ b ∧ b ≤ 8) (hrec : ∀ (M : Mm) (_ : IC M) (i : Nat) (lv : Int), TS M K W m → M 31 7 = (i : Int) → i ≤ m → M 30 2 = lv → (0 ≤ M 37 4 ∧ M 37 4 ≤ (i : Int)) → b < 8 → Con X (12 + 3 * (8 - (b + 1)).toNat) yX2_readSum cX2_readSum 5 (some .boolean) [vr X 30, vi (b + 1)] M (Qi (fun r M1 => IC M1 ∧ Fr (fun c => c = 30 ∨ c = 31 ∨ c = 37 ∨ c = 39 ∨ c = 40) M M1 ∧ M1 31 1 = M 31 1 ∧ M1 37 1 = M 37 1 ∧ ((r = 0 ∨ r = 1) ∧ ∃ (j : Nat) (lv1 : Int), M1 31 7 = (j : Int) ∧ M1 30 2 = lv1 ∧ i ≤ j ∧ j ≤ m ∧ SY K W 5 (b + 1) M M1 i lv r j lv1)))) : Con X (10 + 3 * (8 - b).toNat) yX2_readPart cX2_readPart 4 (some .boolean) [vr X 30, vi b] M (Qi (fun r M1 => IC M1 ∧ Fr (fun c => c = 30 ∨ c = 31 ∨ c = 37 ∨ c = 39 ∨ c = 40) M M1 ∧ M1 31 1 = M 31 1 ∧ M1 37 1 = M 37 1 ∧ ((r = 0 ∨ r = 1) ∧ ∃ (j : Nat) (lv1 : Int), M1 31 7 = (j : Int) ∧ M1 30 2 = lv1 ∧ i ≤ j ∧ j ≤ m ∧ SY K W 7 b M M1 i lv r j lv1))) := by
  refine Con.ofG rfl (Nat.le_of_ble_eq_true rfl) ?_
  show G X (10 + 3 * (8 - b).toNat) RX2 cX2_readPart 4 (some .boolean) (Qi (fun r M1 => IC M1 ∧ Fr (fun c => c = 30 ∨ c = 31 ∨ c = 37 ∨ c = 39 ∨ c = 40) M M1 ∧ M1 31 1 = M 31 1 ∧ M1 37 1 = M 37 1 ∧ ((r = 0 ∨ r = 1) ∧ ∃ (j : Nat) (lv1 : Int), M1 31 7 = (j : Int) ∧ M1 30 2 = lv1 ∧ i ≤ j ∧ j ≤ m ∧ SY K W 7 b M M1 i lv r j lv1))) 0 [(0, vr X 30), (1, vi b)] [] M
  have hm4 := hts.m4
  have hw0 : K i = 2 → 0 ≤ W i := fun z => (hts.num him z).2
  refine g_aload_n (pc' := 1) 0 dX2_readPart_0 rfl rfl ?_
  refine g_getR (pc' := 4) dX2_readPart_1 rfl f_X2_12 rfl rfl ?_
  refine g_bipush (pc' := 6) (v := 91) dX2_readPart_4 rfl (by decide) ?_
  refine g_callVip (pc' := 9) (As := [vi 91]) (b := 31) (S := []) dX2_readPart_6 rfl m_X2_143 w_X8_isSign (c_X8_isSign_x X M hi 91 (by decide) K W m i hts hat him) rfl ⟨_, _, _, rfl, rfl, rfl⟩ (by omega) (by decide) rfl (Nat.le_of_ble_eq_true rfl) (fun z2 q1 => ?_)
  refine g_if_eq (pc' := 12) (tgt := 58) ⟨by omega, by omega⟩ dX2_readPart_9 rfl rfl (fun c3 => ?_) (fun c3 => ?_)
  · replace q1 := q1.resolve_left (fun h => absurd (c3.symm.trans h.1) (by decide))
    refine g_aload_n (pc' := 59) 0 dX2_readPart_58 rfl rfl ?_
    refine g_getI (pc' := 62) dX2_readPart_59 rfl f_X2_25 rfl rfl (fun v4 ev4 rv4 => ?_)
    refine g_bipush (pc' := 64) (v := 50) dX2_readPart_62 rfl (by decide) ?_
    refine g_ic_lt (pc' := 67) (tgt := 69) rv4 (by decide) dX2_readPart_64 rfl rfl (fun c5 => ?_) (fun c5 => ?_)
    · refine g_aload_n (pc' := 70) 0 dX2_readPart_69 rfl rfl ?_
      refine g_dup (pc' := 71) dX2_readPart_70 rfl rfl ?_
      refine g_getI (pc' := 74) dX2_readPart_71 rfl f_X2_25 rfl rfl (fun v6 ev6 rv6 => ?_)
      obtain rfl : v4 = v6 := ev4.trans ev6.symm
      refine g_iconst (pc' := 75) dX2_readPart_74 rfl ?_
      refine g_iadd (pc' := 76) dX2_readPart_75 rfl ?_
      refine g_putI (pc' := 79) dX2_readPart_76 rfl p_X2_25 rfl rfl ⟨by omega, by omega⟩ (fun M7 hM7 => ?_)
      have iM7 : IC M7 := IC.wr hi hM7 (by unfold okw isT; first | decide | omega)
      have fM7 : Fr (fun c => c = 30 ∨ c = 31 ∨ c = 37 ∨ c = 39 ∨ c = 40) M M7 := Fr.wr Fr.rf hM7 (by first | decide | omega | (dsimp only; omega))
      have q31_1_M7 : id (M7 31 1 = M 31 1) := (show M7 31 1 = M 31 1 by rw [hM7]; exact mu_ne _ _ (by first | decide | omega))
      have q37_1_M7 : id (M7 37 1 = M 37 1) := (show M7 37 1 = M 37 1 by rw [hM7]; exact mu_ne _ _ (by first | decide | omega))
      have wM7_31_7 : M7 31 7 = M 31 7 := by rw [hM7]; exact mu_ne _ _ (by first | decide | omega)
      have wM7_37_4 : M7 37 4 = M 37 4 := by rw [hM7]; exact mu_ne _ _ (by first | decide | omega)
      have xM7_30_2 : M7 30 2 = v4 + 1 := by rw [hM7]; exact mu_at _ _ _ _
      have tsM7 : TS M7 K W m := TS.fr hts (P := fun q => q = 30) (fun q hq => by rw [hM7]; exact mu_cell _ _ hq) (fun q h1 h2 => by show ¬ q = 30; omega)
      have k39M7 : M7 39 = M 39 := (show M7 39 = M 39 by rw [hM7]; exact mu_cell _ _ (by first | decide | omega))
      have k40M7 : M7 40 = M 40 := (show M7 40 = M 40 by rw [hM7]; exact mu_cell _ _ (by first | decide | omega))
      refine g_aload_n (pc' := 80) 0 dX2_readPart_79 rfl rfl ?_
      refine g_getR (pc' := 83) dX2_readPart_80 rfl f_X2_12 rfl rfl ?_
      refine g_iconst (pc' := 84) dX2_readPart_83 rfl ?_
      refine g_sipush (pc' := 87) (v := 1000) dX2_readPart_84 rfl (by decide) ?_
      refine g_callVi (pc' := 90) (As := [vi 0, vi 1000]) (b := 31) (S := []) dX2_readPart_87 rfl m_X2_87 w_X8_takeNumber (c_X8_takeNumber_x X M7 iM7 0 (by decide) 1000 (by decide) K W m i tsM7 (by omega) (by omega) (by omega)) rfl ⟨_, _, _, rfl, rfl, rfl⟩ (by omega) (by decide) rfl (Nat.le_of_ble_eq_true rfl) (fun z9 M10 q8 => ?_)
      obtain ⟨iM10, fM100, eM10_31_1, pM10⟩ := q8
      have fM10 : Fr (fun c => c = 30 ∨ c = 31 ∨ c = 37 ∨ c = 39 ∨ c = 40) M M10 := Fr.tr fM7 fM100 fi_67
      have q31_1_M10 : id (M10 31 1 = M 31 1) := eM10_31_1.trans q31_1_M7
      have q37_1_M10 : id (M10 37 1 = M 37 1) := (congrFun (fM100 37 (by first | decide | omega | (dsimp only; omega))) 1).trans q37_1_M7
      have wM10_30_2 : M10 30 2 = M7 30 2 := (congrFun (fM100 30 (by first | decide | omega | (dsimp only; omega))) 2)
      have wM10_37_4 : M10 37 4 = M7 37 4 := (congrFun (fM100 37 (by first | decide | omega | (dsimp only; omega))) 4)
      have xM10_30_2 : M10 30 2 = v4 + 1 := (congrFun (fM100 30 (by first | decide | omega | (dsimp only; omega))) 2).trans xM7_30_2
      clear eM10_31_1
      have tsM10 : TS M10 K W m := TS.fr tsM7 fM100 (fun c h1 h2 => by first | omega | (dsimp only; omega))
      have k39M10 : M10 39 = M 39 := (fM100 39 (by decide)).trans k39M7
      have k40M10 : M10 40 = M 40 := (fM100 40 (by decide)).trans k40M7
      refine g_istore_n (pc' := 91) (i := 2) (L' := [(2, vi z9), (0, vr X 30), (1, vi b)]) dX2_readPart_90 rfl rfl (by decide) rfl ?_
      refine g_iload_n (pc' := 92) 0 dX2_readPart_91 rfl rfl ?_
      refine g_iconst (pc' := 93) dX2_readPart_92 rfl ?_
      refine g_ic_eq (pc' := 96) (tgt := 108) ⟨by omega, by omega⟩ (by decide) dX2_readPart_93 rfl rfl (fun c11 => ?_) (fun c11 => ?_)
      · refine g_aload_n (pc' := 109) 1 dX2_readPart_108 rfl rfl ?_
        refine g_getR (pc' := 112) dX2_readPart_109 rfl f_X2_12 rfl rfl ?_
        refine g_ldcS (pc' := 114) (j := 1) dX2_readPart_112 rfl rfl ?_
        refine g_callVi (pc' := 117) (As := [vs X 1]) (b := 31) (S := []) dX2_readPart_114 rfl m_X2_65 w_X8_takeWord (c_X8_takeWord_x X M10 iM10 1 (by decide) K W m i tsM10 (by omega) (by omega)) rfl ⟨_, _, _, rfl, rfl, rfl⟩ (by omega) (by decide) rfl (Nat.le_of_ble_eq_true rfl) (fun z13 M14 q12 => ?_)
        obtain ⟨iM14, fM140, eM14_31_1, pM14⟩ := q12
        have fM14 : Fr (fun c => c = 30 ∨ c = 31 ∨ c = 37 ∨ c = 39 ∨ c = 40) M M14 := Fr.tr fM10 fM140 fi_67
        have q31_1_M14 : id (M14 31 1 = M 31 1) := eM14_31_1.trans q31_1_M10
        have q37_1_M14 : id (M14 37 1 = M 37 1) := (congrFun (fM140 37 (by first | decide | omega | (dsimp only; omega))) 1).trans q37_1_M10
        have wM14_30_2 : M14 30 2 = M10 30 2 := (congrFun (fM140 30 (by first | decide | omega | (dsimp only; omega))) 2)
        have wM14_37_4 : M14 37 4 = M10 37 4 := (congrFun (fM140 37 (by first | decide | omega | (dsimp only; omega))) 4)
        have xM14_30_2 : M14 30 2 = v4 + 1 := (congrFun (fM140 30 (by first | decide | omega | (dsimp only; omega))) 2).trans xM10_30_2
        clear eM14_31_1
        have tsM14 : TS M14 K W m := TS.fr tsM10 fM140 (fun c h1 h2 => by first | omega | (dsimp only; omega))
        rw [cw_1] at pM14
        have k39M14 : M14 39 = M 39 := (fM140 39 (by decide)).trans k39M10
        have k40M14 : M14 40 = M 40 := (fM140 40 (by decide)).trans k40M10
        refine g_if_eq (pc' := 120) (tgt := 132) ⟨by omega, by omega⟩ dX2_readPart_117 rfl rfl (fun c15 => ?_) (fun c15 => ?_)
        · refine g_aload_n (pc' := 133) 1 dX2_readPart_132 rfl rfl ?_
          refine g_getR (pc' := 136) dX2_readPart_133 rfl f_X2_12 rfl rfl ?_
          refine g_ldcS (pc' := 138) (j := 2) dX2_readPart_136 rfl rfl ?_
          refine g_callVi (pc' := 141) (As := [vs X 2]) (b := 31) (S := []) dX2_readPart_138 rfl m_X2_65 w_X8_takeWord (c_X8_takeWord_x X M14 iM14 2 (by decide) K W m i tsM14 (by omega) (by omega)) rfl ⟨_, _, _, rfl, rfl, rfl⟩ (by omega) (by decide) rfl (Nat.le_of_ble_eq_true rfl) (fun z17 M18 q16 => ?_)
          obtain ⟨iM18, fM180, eM18_31_1, pM18⟩ := q16
          have fM18 : Fr (fun c => c = 30 ∨ c = 31 ∨ c = 37 ∨ c = 39 ∨ c = 40) M M18 := Fr.tr fM14 fM180 fi_67
          have q31_1_M18 : id (M18 31 1 = M 31 1) := eM18_31_1.trans q31_1_M14
          have q37_1_M18 : id (M18 37 1 = M 37 1) := (congrFun (fM180 37 (by first | decide | omega | (dsimp only; omega))) 1).trans q37_1_M14
          have wM18_30_2 : M18 30 2 = M14 30 2 := (congrFun (fM180 30 (by first | decide | omega | (dsimp only; omega))) 2)
          have wM18_37_4 : M18 37 4 = M14 37 4 := (congrFun (fM180 37 (by first | decide | omega | (dsimp only; omega))) 4)
          have xM18_30_2 : M18 30 2 = v4 + 1 := (congrFun (fM180 30 (by first | decide | omega | (dsimp only; omega))) 2).trans xM14_30_2
          clear eM18_31_1
          have tsM18 : TS M18 K W m := TS.fr tsM14 fM180 (fun c h1 h2 => by first | omega | (dsimp only; omega))
          rw [cw_2] at pM18
          have k39M18 : M18 39 = M 39 := (fM180 39 (by decide)).trans k39M14
          have k40M18 : M18 40 = M 40 := (fM180 40 (by decide)).trans k40M14
          refine g_if_eq (pc' := 144) (tgt := 151) ⟨by omega, by omega⟩ dX2_readPart_141 rfl rfl (fun c19 => ?_) (fun c19 => ?_)
          · refine g_aload_n (pc' := 152) 1 dX2_readPart_151 rfl rfl ?_
            refine g_getR (pc' := 155) dX2_readPart_152 rfl f_X2_12 rfl rfl ?_
            refine g_ldcS (pc' := 157) (j := 3) dX2_readPart_155 rfl rfl ?_
            refine g_callVi (pc' := 160) (As := [vs X 3]) (b := 31) (S := []) dX2_readPart_157 rfl m_X2_65 w_X8_takeWord (c_X8_takeWord_x X M18 iM18 3 (by decide) K W m i tsM18 (by omega) (by omega)) rfl ⟨_, _, _, rfl, rfl, rfl⟩ (by omega) (by decide) rfl (Nat.le_of_ble_eq_true rfl) (fun z21 M22 q20 => ?_)
            obtain ⟨iM22, fM220, eM22_31_1, pM22⟩ := q20
            have fM22 : Fr (fun c => c = 30 ∨ c = 31 ∨ c = 37 ∨ c = 39 ∨ c = 40) M M22 := Fr.tr fM18 fM220 fi_67
            have q31_1_M22 : id (M22 31 1 = M 31 1) := eM22_31_1.trans q31_1_M18
            have q37_1_M22 : id (M22 37 1 = M 37 1) := (congrFun (fM220 37 (by first | decide | omega | (dsimp only; omega))) 1).trans q37_1_M18
            have wM22_30_2 : M22 30 2 = M18 30 2 := (congrFun (fM220 30 (by first | decide | omega | (dsimp only; omega))) 2)
            have wM22_37_4 : M22 37 4 = M18 37 4 := (congrFun (fM220 37 (by first | decide | omega | (dsimp only; omega))) 4)
            have xM22_30_2 : M22 30 2 = v4 + 1 := (congrFun (fM220 30 (by first | decide | omega | (dsimp only; omega))) 2).trans xM18_30_2
            clear eM22_31_1
            have tsM22 : TS M22 K W m := TS.fr tsM18 fM220 (fun c h1 h2 => by first | omega | (dsimp only; omega))
            rw [cw_3] at pM22
            have k39M22 : M22 39 = M 39 := (fM220 39 (by decide)).trans k39M18
            have k40M22 : M22 40 = M 40 := (fM220 40 (by decide)).trans k40M18
            refine g_if_eq (pc' := 163) (tgt := 170) ⟨by omega, by omega⟩ dX2_readPart_160 rfl rfl (fun c23 => ?_) (fun c23 => ?_)
            · refine g_aload_n (pc' := 171) 1 dX2_readPart_170 rfl rfl ?_
              refine g_getR (pc' := 174) dX2_readPart_171 rfl f_X2_12 rfl rfl ?_
              refine g_ldcS (pc' := 176) (j := 4) dX2_readPart_174 rfl rfl ?_
              refine g_callVi (pc' := 179) (As := [vs X 4]) (b := 31) (S := []) dX2_readPart_176 rfl m_X2_65 w_X8_takeWord (c_X8_takeWord_x X M22 iM22 4 (by decide) K W m i tsM22 (by omega) (by omega)) rfl ⟨_, _, _, rfl, rfl, rfl⟩ (by omega) (by decide) rfl (Nat.le_of_ble_eq_true rfl) (fun z25 M26 q24 => ?_)
              obtain ⟨iM26, fM260, eM26_31_1, pM26⟩ := q24
              have fM26 : Fr (fun c => c = 30 ∨ c = 31 ∨ c = 37 ∨ c = 39 ∨ c = 40) M M26 := Fr.tr fM22 fM260 fi_67
              have q31_1_M26 : id (M26 31 1 = M 31 1) := eM26_31_1.trans q31_1_M22
              have q37_1_M26 : id (M26 37 1 = M 37 1) := (congrFun (fM260 37 (by first | decide | omega | (dsimp only; omega))) 1).trans q37_1_M22
              have wM26_30_2 : M26 30 2 = M22 30 2 := (congrFun (fM260 30 (by first | decide | omega | (dsimp only; omega))) 2)
              have wM26_37_4 : M26 37 4 = M22 37 4 := (congrFun (fM260 37 (by first | decide | omega | (dsimp only; omega))) 4)
              have xM26_30_2 : M26 30 2 = v4 + 1 := (congrFun (fM260 30 (by first | decide | omega | (dsimp only; omega))) 2).trans xM22_30_2
              clear eM26_31_1
              have tsM26 : TS M26 K W m := TS.fr tsM22 fM260 (fun c h1 h2 => by first | omega | (dsimp only; omega))
              rw [cw_4] at pM26
              have k39M26 : M26 39 = M 39 := (fM260 39 (by decide)).trans k39M22
              have k40M26 : M26 40 = M 40 := (fM260 40 (by decide)).trans k40M22
              refine g_if_ne (pc' := 182) (tgt := 184) ⟨by omega, by omega⟩ dX2_readPart_179 rfl rfl (fun c27 => ?_) (fun c27 => ?_)
              · have hw1 : K (i + 1) = 2 → 0 ≤ W (i + 1) := fun z => (hts.num (by omega) z).2
                refine g_aload_n (pc' := 185) 1 dX2_readPart_184 rfl rfl ?_
                refine g_getR (pc' := 188) dX2_readPart_185 rfl f_X2_12 rfl rfl ?_
                refine g_iconst (pc' := 189) dX2_readPart_188 rfl ?_
                refine g_iconst (pc' := 190) dX2_readPart_189 rfl ?_
                refine g_callVi (pc' := 193) (As := [vi 0, vi 3]) (b := 31) (S := []) dX2_readPart_190 rfl m_X2_87 w_X8_takeNumber (c_X8_takeNumber_x X M26 iM26 0 (by decide) 3 (by decide) K W m (i + 1) tsM26 (by omega) (by omega) (by omega)) rfl ⟨_, _, _, rfl, rfl, rfl⟩ (by omega) (by decide) rfl (Nat.le_of_ble_eq_true rfl) (fun z29 M30 q28 => ?_)
                obtain ⟨iM30, fM300, eM30_31_1, pM30⟩ := q28
                have fM30 : Fr (fun c => c = 30 ∨ c = 31 ∨ c = 37 ∨ c = 39 ∨ c = 40) M M30 := Fr.tr fM26 fM300 fi_67
                have q31_1_M30 : id (M30 31 1 = M 31 1) := eM30_31_1.trans q31_1_M26
                have q37_1_M30 : id (M30 37 1 = M 37 1) := (congrFun (fM300 37 (by first | decide | omega | (dsimp only; omega))) 1).trans q37_1_M26
                have wM30_30_2 : M30 30 2 = M26 30 2 := (congrFun (fM300 30 (by first | decide | omega | (dsimp only; omega))) 2)
                have wM30_37_4 : M30 37 4 = M26 37 4 := (congrFun (fM300 37 (by first | decide | omega | (dsimp only; omega))) 4)
                have xM30_30_2 : M30 30 2 = v4 + 1 := (congrFun (fM300 30 (by first | decide | omega | (dsimp only; omega))) 2).trans xM26_30_2
                clear eM30_31_1
                have tsM30 : TS M30 K W m := TS.fr tsM26 fM300 (fun c h1 h2 => by first | omega | (dsimp only; omega))
                have k39M30 : M30 39 = M 39 := (fM300 39 (by decide)).trans k39M26
                have k40M30 : M30 40 = M 40 := (fM300 40 (by decide)).trans k40M26
                refine g_istore_n (pc' := 194) (i := 3) (L' := [(3, vi z29), (2, vi z9), (0, vr X 30), (1, vi b)]) dX2_readPart_193 rfl rfl (by decide) rfl ?_
                refine g_iload_n (pc' := 195) 0 dX2_readPart_194 rfl rfl ?_
                refine g_iconst (pc' := 196) dX2_readPart_195 rfl ?_
                refine g_ic_eq (pc' := 199) (tgt := 212) ⟨by omega, by omega⟩ (by decide) dX2_readPart_196 rfl rfl (fun c31 => ?_) (fun c31 => ?_)
                · refine g_iconst (pc' := 213) dX2_readPart_212 rfl ?_
                  refine g_zreturn dX2_readPart_213 (by omega) ?_
                  exact ⟨iM30, fM30, q31_1_M30, q37_1_M30, by omega, i + 1, lv + 1, by omega, by omega, by omega, by omega, SY.n (by omega) (by omega) (pa_tasteX (by omega) (by omega) (by omega))⟩
                · have hw2 : K (i + 1 + 1) = 2 → 0 ≤ W (i + 1 + 1) := fun z => (hts.num (by omega) z).2
                  refine g_aload_n (pc' := 200) 2 dX2_readPart_199 rfl rfl ?_
                  refine g_iconst (pc' := 201) dX2_readPart_200 rfl ?_
                  refine g_iload_n (pc' := 202) 0 dX2_readPart_201 rfl rfl ?_
                  refine g_callVi (pc' := 205) (As := [vi 4, vi z29]) (b := 30) (S := []) dX2_readPart_202 rfl m_X2_166 w_X2_readGlass (c_X2_readGlass_y X M30 iM30 4 (by decide) z29 ⟨by omega, by omega⟩ K W m (i + 1 + 1) tsM30 (by omega) (by omega) (lv + 1) (by omega) (by omega) (by omega)) rfl ⟨_, _, _, rfl, rfl, rfl⟩ (by omega) (by decide) rfl (Nat.le_of_ble_eq_true rfl) (fun z33 M34 q32 => ?_)
                  obtain ⟨iM34, fM340, eM34_31_1, eM34_37_1, pM34⟩ := q32
                  have fM34 : Fr (fun c => c = 30 ∨ c = 31 ∨ c = 37 ∨ c = 39 ∨ c = 40) M M34 := Fr.tr fM30 fM340 fi_68
                  have q31_1_M34 : id (M34 31 1 = M 31 1) := eM34_31_1.trans q31_1_M30
                  have q37_1_M34 : id (M34 37 1 = M 37 1) := eM34_37_1.trans q37_1_M30
                  have wM34_30_2 : M34 30 2 = M30 30 2 := (congrFun (fM340 30 (by first | decide | omega | (dsimp only; omega))) 2)
                  have xM34_30_2 : M34 30 2 = v4 + 1 := (congrFun (fM340 30 (by first | decide | omega | (dsimp only; omega))) 2).trans xM30_30_2
                  clear eM34_31_1 eM34_37_1
                  have tsM34 : TS M34 K W m := TS.fr tsM30 fM340 (fun c h1 h2 => by first | omega | (dsimp only; omega))
                  refine g_if_eq (pc' := 208) (tgt := 212) ⟨by omega, by omega⟩ dX2_readPart_205 rfl rfl (fun c35 => ?_) (fun c35 => ?_)
                  · refine g_iconst (pc' := 213) dX2_readPart_212 rfl ?_
                    refine g_zreturn dX2_readPart_213 (by omega) ?_
                    have pq := pM34.1.resolve_left (fun z => by omega)
                    exact ⟨iM34, fM34, q31_1_M34, q37_1_M34, by omega, i + 1 + 1, lv + 1, by omega, by omega, by omega, by omega, SY.n (by omega) (by omega) (pa_taste0 (by omega) (by omega) (by omega) (by omega))⟩
                  · refine g_iconst (pc' := 209) dX2_readPart_208 rfl ?_
                    refine g_goto (tgt := 213) dX2_readPart_209 rfl ?_
                    refine g_zreturn dX2_readPart_213 (by omega) ?_
                    obtain ⟨y1, y2, y3, y4, y5, y6, y7⟩ := pM34.1.resolve_right (fun z => by omega)
                    have pk := pM34.2
                    have zc9 := y6
                    have zc0 := y7
                    rw [k39M30, show M30 37 4 = M 37 4 by omega] at zc9
                    rw [k40M30, show M30 37 4 = M 37 4 by omega] at zc0
                    exact ⟨iM34, fM34, q31_1_M34, q37_1_M34, by omega, i + 1 + 1 + 1, lv + 1, by omega, by omega, by omega, by omega, ⟨fun z => by omega, by omega, fun _ => ⟨NS7 _ _ _, CDS.wr (CDS.eq (M := M) rfl rfl rfl) hsl.1 (by omega) zc9 zc0 rfl, by omega, qa_taste (by omega) (by omega) (by omega) (by omega) (MC.lf (s := (M 37 4).toNat) zc9 zc0 (by omega) (by omega) (lv_taste (s := W (i + 1)) (by omega) (by omega)) (fun z => absurd z (by decide)) (by omega) (by omega))⟩⟩⟩
              · refine g_iconst (pc' := 183) dX2_readPart_182 rfl ?_
                refine g_zreturn dX2_readPart_183 (by omega) ?_
                exact ⟨iM26, fM26, q31_1_M26, q37_1_M26, by omega, i, lv + 1, by omega, by omega, by omega, by omega, SY.n (by omega) (by omega) (pa_no q1.2 (by omega) (by omega) (by omega) (by omega) (by omega))⟩
            · have hw1 : K (i + 1) = 2 → 0 ≤ W (i + 1) := fun z => (hts.num (by omega) z).2
              refine g_aload_n (pc' := 164) 1 dX2_readPart_163 rfl rfl ?_
              refine g_iconst (pc' := 165) dX2_readPart_164 rfl ?_
              refine g_iconst (pc' := 166) dX2_readPart_165 rfl ?_
              refine g_callVi (pc' := 169) (As := [vi 3, vi 0]) (b := 30) (S := []) dX2_readPart_166 rfl m_X2_166 w_X2_readGlass (c_X2_readGlass_y X M22 iM22 3 (by decide) 0 (by decide) K W m (i + 1) tsM22 (by omega) (by omega) (lv + 1) (by omega) (by omega) (by omega)) rfl ⟨_, _, _, rfl, rfl, rfl⟩ (by omega) (by decide) rfl (Nat.le_of_ble_eq_true rfl) (fun z37 M38 q36 => ?_)
              obtain ⟨iM38, fM380, eM38_31_1, eM38_37_1, pM38⟩ := q36
              have fM38 : Fr (fun c => c = 30 ∨ c = 31 ∨ c = 37 ∨ c = 39 ∨ c = 40) M M38 := Fr.tr fM22 fM380 fi_68
              have q31_1_M38 : id (M38 31 1 = M 31 1) := eM38_31_1.trans q31_1_M22
              have q37_1_M38 : id (M38 37 1 = M 37 1) := eM38_37_1.trans q37_1_M22
              have wM38_30_2 : M38 30 2 = M22 30 2 := (congrFun (fM380 30 (by first | decide | omega | (dsimp only; omega))) 2)
              have xM38_30_2 : M38 30 2 = v4 + 1 := (congrFun (fM380 30 (by first | decide | omega | (dsimp only; omega))) 2).trans xM22_30_2
              clear eM38_31_1 eM38_37_1
              have tsM38 : TS M38 K W m := TS.fr tsM22 fM380 (fun c h1 h2 => by first | omega | (dsimp only; omega))
              refine g_zreturn dX2_readPart_169 (by omega) ?_
              obtain ⟨pq, pk⟩ := pM38
              rcases pq with ⟨y1, y2, y3, y4, y5, y6, y7⟩ | ⟨y1, y2, y3⟩
              · have zc9 := y6
                have zc0 := y7
                rw [k39M22, show M22 37 4 = M 37 4 by omega] at zc9
                rw [k40M22, show M22 37 4 = M 37 4 by omega] at zc0
                exact ⟨iM38, fM38, q31_1_M38, q37_1_M38, by omega, i + 1 + 1, lv + 1, by omega, by omega, by omega, by omega, ⟨fun z => by omega, by omega, fun _ => ⟨NS7 _ _ _, CDS.wr (CDS.eq (M := M) rfl rfl rfl) hsl.1 (by omega) zc9 zc0 rfl, by omega, qa_size (by omega) (by omega) (by omega) (by omega) (MC.lf (s := (M 37 4).toNat) zc9 zc0 (by omega) (by omega) (lv_size rfl) (fun z => absurd z (by decide)) (by omega) (by omega))⟩⟩⟩
              · exact ⟨iM38, fM38, q31_1_M38, q37_1_M38, by omega, i + 1, lv + 1, by omega, by omega, by omega, by omega, SY.n (by omega) (by omega) (pa_size0 (by omega) (by omega) (by omega))⟩
          · have hw1 : K (i + 1) = 2 → 0 ≤ W (i + 1) := fun z => (hts.num (by omega) z).2
            refine g_aload_n (pc' := 145) 1 dX2_readPart_144 rfl rfl ?_
            refine g_iconst (pc' := 146) dX2_readPart_145 rfl ?_
            refine g_iconst (pc' := 147) dX2_readPart_146 rfl ?_
            refine g_callVi (pc' := 150) (As := [vi 2, vi 0]) (b := 30) (S := []) dX2_readPart_147 rfl m_X2_166 w_X2_readGlass (c_X2_readGlass_y X M18 iM18 2 (by decide) 0 (by decide) K W m (i + 1) tsM18 (by omega) (by omega) (lv + 1) (by omega) (by omega) (by omega)) rfl ⟨_, _, _, rfl, rfl, rfl⟩ (by omega) (by decide) rfl (Nat.le_of_ble_eq_true rfl) (fun z40 M41 q39 => ?_)
            obtain ⟨iM41, fM410, eM41_31_1, eM41_37_1, pM41⟩ := q39
            have fM41 : Fr (fun c => c = 30 ∨ c = 31 ∨ c = 37 ∨ c = 39 ∨ c = 40) M M41 := Fr.tr fM18 fM410 fi_68
            have q31_1_M41 : id (M41 31 1 = M 31 1) := eM41_31_1.trans q31_1_M18
            have q37_1_M41 : id (M41 37 1 = M 37 1) := eM41_37_1.trans q37_1_M18
            have wM41_30_2 : M41 30 2 = M18 30 2 := (congrFun (fM410 30 (by first | decide | omega | (dsimp only; omega))) 2)
            have xM41_30_2 : M41 30 2 = v4 + 1 := (congrFun (fM410 30 (by first | decide | omega | (dsimp only; omega))) 2).trans xM18_30_2
            clear eM41_31_1 eM41_37_1
            have tsM41 : TS M41 K W m := TS.fr tsM18 fM410 (fun c h1 h2 => by first | omega | (dsimp only; omega))
            refine g_zreturn dX2_readPart_150 (by omega) ?_
            obtain ⟨pq, pk⟩ := pM41
            rcases pq with ⟨y1, y2, y3, y4, y5, y6, y7⟩ | ⟨y1, y2, y3⟩
            · have zc9 := y6
              have zc0 := y7
              rw [k39M18, show M18 37 4 = M 37 4 by omega] at zc9
              rw [k40M18, show M18 37 4 = M 37 4 by omega] at zc0
              exact ⟨iM41, fM41, q31_1_M41, q37_1_M41, by omega, i + 1 + 1, lv + 1, by omega, by omega, by omega, by omega, ⟨fun z => by omega, by omega, fun _ => ⟨NS7 _ _ _, CDS.wr (CDS.eq (M := M) rfl rfl rfl) hsl.1 (by omega) zc9 zc0 rfl, by omega, qa_full (by omega) (by omega) (by omega) (by omega) (MC.lf (s := (M 37 4).toNat) zc9 zc0 (by omega) (by omega) (lv_full rfl) (fun z => absurd z (by decide)) (by omega) (by omega))⟩⟩⟩
            · exact ⟨iM41, fM41, q31_1_M41, q37_1_M41, by omega, i + 1, lv + 1, by omega, by omega, by omega, by omega, SY.n (by omega) (by omega) (pa_full0 (by omega) (by omega) (by omega))⟩
        · refine g_aload_n (pc' := 121) 1 dX2_readPart_120 rfl rfl ?_
          refine g_getR (pc' := 124) dX2_readPart_121 rfl f_X2_21 rfl rfl ?_
          refine g_iconst (pc' := 125) dX2_readPart_124 rfl ?_
          refine g_iconst (pc' := 126) dX2_readPart_125 rfl ?_
          refine g_callVi (pc' := 129) (As := [vi 5, vi 0]) (b := 37) (S := []) dX2_readPart_126 rfl m_X2_129 w_X4_write (c_X4_write_y X M14 iM14 5 (by decide) 0 (by decide)) rfl ⟨_, _, _, rfl, rfl, rfl⟩ (by omega) (by decide) rfl (Nat.le_of_ble_eq_true rfl) (fun z43 M44 q42 => ?_)
          obtain ⟨iM44, fM440, eM44_37_1, pM44⟩ := q42
          have fM44 : Fr (fun c => c = 30 ∨ c = 31 ∨ c = 37 ∨ c = 39 ∨ c = 40) M M44 := Fr.tr fM14 fM440 fi_69
          have q31_1_M44 : id (M44 31 1 = M 31 1) := (congrFun (fM440 31 (by first | decide | omega | (dsimp only; omega))) 1).trans q31_1_M14
          have q37_1_M44 : id (M44 37 1 = M 37 1) := eM44_37_1.trans q37_1_M14
          have wM44_30_2 : M44 30 2 = M14 30 2 := (congrFun (fM440 30 (by first | decide | omega | (dsimp only; omega))) 2)
          have wM44_31_7 : M44 31 7 = M14 31 7 := (congrFun (fM440 31 (by first | decide | omega | (dsimp only; omega))) 7)
          have xM44_30_2 : M44 30 2 = v4 + 1 := (congrFun (fM440 30 (by first | decide | omega | (dsimp only; omega))) 2).trans xM14_30_2
          clear eM44_37_1
          have tsM44 : TS M44 K W m := TS.fr tsM14 fM440 (fun c h1 h2 => by first | omega | (dsimp only; omega))
          obtain ⟨wrM44, wzM44, w9M44, w0M44⟩ := pM44.2 (by omega)
          clear pM44
          have k39M44 : M44 39 = ms (M 39) (M14 37 4).toNat 5 := by rw [w9M44, k39M14]
          have k40M44 : M44 40 = ms (M 40) (M14 37 4).toNat 0 := by rw [w0M44, k40M14]
          refine g_pop (pc' := 130) dX2_readPart_129 rfl rfl ?_
          refine g_iconst (pc' := 131) dX2_readPart_130 rfl ?_
          refine g_zreturn dX2_readPart_131 (by omega) ?_
          have zc9 := k39M44
          have zc0 := k40M44
          rw [show M14 37 4 = M 37 4 by omega] at zc9 zc0
          exact ⟨iM44, fM44, q31_1_M44, q37_1_M44, by omega, i + 1, lv + 1, by omega, by omega, by omega, by omega, ⟨fun z => by omega, by omega, fun _ => ⟨NS7 _ _ _, CDS.wr (CDS.eq (M := M) rfl rfl rfl) hsl.1 (by omega) zc9 zc0 rfl, by omega, qa_done (by omega) (by omega) (MC.lf (s := (M 37 4).toNat) zc9 zc0 (by omega) (by omega) lv_done (fun z => absurd z (by decide)) (by omega) (by omega))⟩⟩⟩
      · refine g_aload_n (pc' := 97) 1 dX2_readPart_96 rfl rfl ?_
        refine g_getR (pc' := 100) dX2_readPart_97 rfl f_X2_21 rfl rfl ?_
        refine g_iconst (pc' := 101) dX2_readPart_100 rfl ?_
        refine g_iload_n (pc' := 102) 0 dX2_readPart_101 rfl rfl ?_
        refine g_callVi (pc' := 105) (As := [vi 1, vi z9]) (b := 37) (S := []) dX2_readPart_102 rfl m_X2_129 w_X4_write (c_X4_write_y X M10 iM10 1 (by decide) z9 ⟨by omega, by omega⟩) rfl ⟨_, _, _, rfl, rfl, rfl⟩ (by omega) (by decide) rfl (Nat.le_of_ble_eq_true rfl) (fun z46 M47 q45 => ?_)
        obtain ⟨iM47, fM470, eM47_37_1, pM47⟩ := q45
        have fM47 : Fr (fun c => c = 30 ∨ c = 31 ∨ c = 37 ∨ c = 39 ∨ c = 40) M M47 := Fr.tr fM10 fM470 fi_69
        have q31_1_M47 : id (M47 31 1 = M 31 1) := (congrFun (fM470 31 (by first | decide | omega | (dsimp only; omega))) 1).trans q31_1_M10
        have q37_1_M47 : id (M47 37 1 = M 37 1) := eM47_37_1.trans q37_1_M10
        have wM47_30_2 : M47 30 2 = M10 30 2 := (congrFun (fM470 30 (by first | decide | omega | (dsimp only; omega))) 2)
        have wM47_31_7 : M47 31 7 = M10 31 7 := (congrFun (fM470 31 (by first | decide | omega | (dsimp only; omega))) 7)
        have xM47_30_2 : M47 30 2 = v4 + 1 := (congrFun (fM470 30 (by first | decide | omega | (dsimp only; omega))) 2).trans xM10_30_2
        clear eM47_37_1
        have tsM47 : TS M47 K W m := TS.fr tsM10 fM470 (fun c h1 h2 => by first | omega | (dsimp only; omega))
        obtain ⟨wrM47, wzM47, w9M47, w0M47⟩ := pM47.2 (by omega)
        clear pM47
        have k39M47 : M47 39 = ms (M 39) (M10 37 4).toNat 1 := by rw [w9M47, k39M10]
        have k40M47 : M47 40 = ms (M 40) (M10 37 4).toNat z9 := by rw [w0M47, k40M10]
        refine g_pop (pc' := 106) dX2_readPart_105 rfl rfl ?_
        refine g_iconst (pc' := 107) dX2_readPart_106 rfl ?_
        refine g_zreturn dX2_readPart_107 (by omega) ?_
        have zc9 := k39M47
        have zc0 := k40M47
        rw [show M10 37 4 = M 37 4 by omega] at zc9 zc0
        exact ⟨iM47, fM47, q31_1_M47, q37_1_M47, by omega, i + 1, lv + 1, by omega, by omega, by omega, by omega, ⟨fun z => by omega, by omega, fun _ => ⟨NS7 _ _ _, CDS.wr (CDS.eq (M := M) rfl rfl rfl) hsl.1 (by omega) zc9 zc0 rfl, by omega, qa_num (by omega) (by omega) (by omega) (MC.lf (s := (M 37 4).toNat) zc9 zc0 (by omega) (by omega) (fun E => by rw [show z9 = W i by omega]; exact lv_num _ E) (fun _ => by omega) (by omega) (by omega))⟩⟩⟩
    · refine g_iconst (pc' := 68) dX2_readPart_67 rfl ?_
      refine g_zreturn dX2_readPart_68 (by omega) ?_
      exact ⟨hi, Fr.rf, rfl, rfl, by omega, i, lv, by omega, by omega, by omega, by omega, SY.n (by omega) (by omega) (pa_50 q1.2 (by omega))⟩
  · replace q1 := q1.resolve_right (fun h => c3 h.1)
    refine g_iload_n (pc' := 13) 1 dX2_readPart_12 rfl rfl ?_
    refine g_bipush (pc' := 15) (v := 8) dX2_readPart_13 rfl (by decide) ?_
    refine g_ic_ge (pc' := 18) (tgt := 56) hb (by decide) dX2_readPart_15 rfl rfl (fun c48 => ?_) (fun c48 => ?_)
    · refine g_iconst (pc' := 57) dX2_readPart_56 rfl ?_
      refine g_zreturn dX2_readPart_57 (by omega) ?_
      exact ⟨hi, Fr.rf, rfl, rfl, by omega, i, lv, by omega, by omega, by omega, by omega, SY.n (by omega) (by omega) (pa_8 q1.2 (by omega))⟩
    · refine g_aload_n (pc' := 19) 0 dX2_readPart_18 rfl rfl ?_
      refine g_getR (pc' := 22) dX2_readPart_19 rfl f_X2_12 rfl rfl ?_
      refine g_bipush (pc' := 24) (v := 91) dX2_readPart_22 rfl (by decide) ?_
      refine g_callVi (pc' := 27) (As := [vi 91]) (b := 31) (S := []) dX2_readPart_24 rfl m_X2_50 w_X8_takeSign (c_X8_takeSign_x X M hi 91 (by decide) K W m i hts hat him) rfl ⟨_, _, _, rfl, rfl, rfl⟩ (by omega) (by decide) rfl (Nat.le_of_ble_eq_true rfl) (fun z50 M51 q49 => ?_)
      obtain ⟨iM51, fM510, eM51_31_1, pM51⟩ := q49
      have fM51 : Fr (fun c => c = 30 ∨ c = 31 ∨ c = 37 ∨ c = 39 ∨ c = 40) M M51 := Fr.tr Fr.rf fM510 fi_67
      have q31_1_M51 : id (M51 31 1 = M 31 1) := eM51_31_1
      have q37_1_M51 : id (M51 37 1 = M 37 1) := (congrFun (fM510 37 (by first | decide | omega | (dsimp only; omega))) 1)
      have wM51_30_2 : M51 30 2 = M 30 2 := (congrFun (fM510 30 (by first | decide | omega | (dsimp only; omega))) 2)
      have wM51_37_4 : M51 37 4 = M 37 4 := (congrFun (fM510 37 (by first | decide | omega | (dsimp only; omega))) 4)
      clear eM51_31_1
      have tsM51 : TS M51 K W m := TS.fr hts fM510 (fun c h1 h2 => by first | omega | (dsimp only; omega))
      have k39M51 : M51 39 = M 39 := (fM510 39 (by decide))
      have k40M51 : M51 40 = M 40 := (fM510 40 (by decide))
      refine g_if_eq (pc' := 30) (tgt := 56) ⟨by omega, by omega⟩ dX2_readPart_27 rfl rfl (fun c52 => ?_) (fun c52 => ?_)
      · refine g_iconst (pc' := 57) dX2_readPart_56 rfl ?_
        refine g_zreturn dX2_readPart_57 (by omega) ?_
        exact False.elim (by omega)
      · refine g_aload_n (pc' := 31) 0 dX2_readPart_30 rfl rfl ?_
        refine g_iload_n (pc' := 32) 1 dX2_readPart_31 rfl rfl ?_
        refine g_iconst (pc' := 33) dX2_readPart_32 rfl ?_
        refine g_iadd (pc' := 34) dX2_readPart_33 rfl ?_
        refine g_callVi (pc' := 37) (As := [vi (b + 1)]) (b := 30) (S := []) dX2_readPart_34 rfl m_X2_97 w_X2_readSum (hrec M51 iM51 (i + 1) lv tsM51 (by omega) (by omega) (by omega) (by omega) (by omega)) rfl ⟨_, _, _, rfl, rfl, rfl⟩ (by omega) (by decide) rfl (Nat.le_of_ble_eq_true rfl) (fun z54 M55 q53 => ?_)
        obtain ⟨iM55, fM550, eM55_31_1, eM55_37_1, pM55⟩ := q53
        have fM55 : Fr (fun c => c = 30 ∨ c = 31 ∨ c = 37 ∨ c = 39 ∨ c = 40) M M55 := Fr.tr fM51 fM550 (fun _ z => z)
        have q31_1_M55 : id (M55 31 1 = M 31 1) := eM55_31_1.trans q31_1_M51
        have q37_1_M55 : id (M55 37 1 = M 37 1) := eM55_37_1.trans q37_1_M51
        clear eM55_31_1 eM55_37_1
        have tsM55 : TS M55 K W m := TS.fr tsM51 fM550 (fun c h1 h2 => by first | omega | (dsimp only; omega))
        obtain ⟨pzM55, jM55, lvM55, paM55, plM55, piM55, pmM55, yM55⟩ := pM55
        have gM55 := yM55.rs
        have ylM55 : (M51 37 4 ≤ M55 37 4 ∧ M55 37 4 - M51 37 4 ≤ (jM55 : Int) - (i + 1)) ∧ (z54 = 1 → lv < lvM55 ∧ lvM55 ≤ 50) := ⟨yM55.2.1, fun z => (yM55.2.2 z).2.2.1⟩
        refine g_if_eq (pc' := 40) (tgt := 56) ⟨by omega, by omega⟩ dX2_readPart_37 rfl rfl (fun c56 => ?_) (fun c56 => ?_)
        · refine g_iconst (pc' := 57) dX2_readPart_56 rfl ?_
          refine g_zreturn dX2_readPart_57 (by omega) ?_
          exact ⟨iM55, fM55, q31_1_M55, q37_1_M55, by omega, jM55, lvM55, by omega, by omega, by omega, by omega, SY.n (by omega) (by omega) (pa_in0 (lv' := 0) q1.2 (by omega) (RS.n (gM55.2 (by omega))))⟩
        · refine g_aload_n (pc' := 41) 0 dX2_readPart_40 rfl rfl ?_
          refine g_getR (pc' := 44) dX2_readPart_41 rfl f_X2_12 rfl rfl ?_
          refine g_bipush (pc' := 46) (v := 93) dX2_readPart_44 rfl (by decide) ?_
          refine g_callVi (pc' := 49) (As := [vi 93]) (b := 31) (S := []) dX2_readPart_46 rfl m_X2_50 w_X8_takeSign (c_X8_takeSign_x X M55 iM55 93 (by decide) K W m jM55 tsM55 (by omega) (by omega)) rfl ⟨_, _, _, rfl, rfl, rfl⟩ (by omega) (by decide) rfl (Nat.le_of_ble_eq_true rfl) (fun z58 M59 q57 => ?_)
          obtain ⟨iM59, fM590, eM59_31_1, pM59⟩ := q57
          have fM59 : Fr (fun c => c = 30 ∨ c = 31 ∨ c = 37 ∨ c = 39 ∨ c = 40) M M59 := Fr.tr fM55 fM590 fi_67
          have q31_1_M59 : id (M59 31 1 = M 31 1) := eM59_31_1.trans q31_1_M55
          have q37_1_M59 : id (M59 37 1 = M 37 1) := (congrFun (fM590 37 (by first | decide | omega | (dsimp only; omega))) 1).trans q37_1_M55
          have wM59_30_2 : M59 30 2 = M55 30 2 := (congrFun (fM590 30 (by first | decide | omega | (dsimp only; omega))) 2)
          have wM59_37_4 : M59 37 4 = M55 37 4 := (congrFun (fM590 37 (by first | decide | omega | (dsimp only; omega))) 4)
          clear eM59_31_1
          have tsM59 : TS M59 K W m := TS.fr tsM55 fM590 (fun c h1 h2 => by first | omega | (dsimp only; omega))
          have k39M59 : M59 39 = M55 39 := (fM590 39 (by decide))
          have k40M59 : M59 40 = M55 40 := (fM590 40 (by decide))
          refine g_if_eq (pc' := 52) (tgt := 56) ⟨by omega, by omega⟩ dX2_readPart_49 rfl rfl (fun c60 => ?_) (fun c60 => ?_)
          · refine g_iconst (pc' := 57) dX2_readPart_56 rfl ?_
            refine g_zreturn dX2_readPart_57 (by omega) ?_
            exact ⟨iM59, fM59, q31_1_M59, q37_1_M59, by omega, jM55, lvM55, by omega, by omega, by omega, by omega, SY.n (by omega) (by omega) (pa_in1 q1.2 (by omega) (RS.y (gM55.1 (by omega))) (by omega))⟩
          · refine g_iconst (pc' := 53) dX2_readPart_52 rfl ?_
            refine g_goto (tgt := 57) dX2_readPart_53 rfl ?_
            refine g_zreturn dX2_readPart_57 (by omega) ?_
            exact ⟨iM59, fM59, q31_1_M59, q37_1_M59, by omega, jM55 + 1, lvM55, by omega, by omega, by omega, by omega, ⟨fun z => by omega, by omega, fun _ => ⟨NS7 _ _ _, (CDS.eq (M := M) (M1 := M51) (by omega) k39M51 k40M51).tr ((yM55.2.2 (by omega)).2.1.tr (CDS.eq (by omega) k39M59 k40M59)), by omega, qa_in2 q1.2 (by omega) (yM55.2.2 (by omega)).1 ((yM55.2.2 (by omega)).2.2.2.mp (fun f q => by rw [k39M59, k40M59, show M 37 4 = M51 37 4 by omega, show M59 37 4 = M55 37 4 by omega]; exact q)) (by omega)⟩⟩⟩
set_option maxHeartbeats 4000000 in
set_option maxRecDepth 100000 in
theorem l_X2_readTerm_y_22 (X : Cx) (M : Mm) (hi : IC M) (b : Int) (hb : inI b) (K W : Nat → Int) (m i : Nat) (hts : TS M K W m) (hat : M 31 7 = (i : Int)) (him : i ≤ m) (lv : Int) (hlv : M 30 2 = lv) (hsl : 0 ≤ M 37 4 ∧ M 37 4 ≤ (i : Int)) (hb8 : 0 ≤ b ∧ b ≤ 8) (hsub : ∀ (M : Mm) (_ : IC M) (i : Nat) (lv : Int), TS M K W m → M 31 7 = (i : Int) → i ≤ m → M 30 2 = lv → (0 ≤ M 37 4 ∧ M 37 4 ≤ (i : Int)) → Con X (10 + 3 * (8 - b).toNat) yX2_readPart cX2_readPart 4 (some .boolean) [vr X 30, vi b] M (Qi (fun r M1 => IC M1 ∧ Fr (fun c => c = 30 ∨ c = 31 ∨ c = 37 ∨ c = 39 ∨ c = 40) M M1 ∧ M1 31 1 = M 31 1 ∧ M1 37 1 = M 37 1 ∧ ((r = 0 ∨ r = 1) ∧ ∃ (j : Nat) (lv1 : Int), M1 31 7 = (j : Int) ∧ M1 30 2 = lv1 ∧ i ≤ j ∧ j ≤ m ∧ SY K W 7 b M M1 i lv r j lv1)))) : ∀ (kk : Nat) (re : Int) (co : Int) (n : Int) (M1 : Mm) (ic1 : IC M1) (fr1 : Fr (fun c => c = 30 ∨ c = 31 ∨ c = 37 ∨ c = 39 ∨ c = 40) M M1) (q31_1 : id (M1 31 1 = M 31 1)) (q37_1 : id (M1 37 1 = M 37 1)) (h2 : re = 0 ∨ re = 1) (h3 : 0 ≤ co ∧ co ≤ 12) (h0 : 0 ≤ n ∧ n ≤ 400) (jx : Nat) (lx : Int) (at1 : M1 31 7 = (jx : Int)) (lv1 : M1 30 2 = lx) (ij : i ≤ jx ∧ jx ≤ m) (ts1 : TS M1 K W m) (nj : co ≠ 0 → (n + 2 ≤ jx ∧ re = 1) ∧ (M1 37 4 - M 37 4 ≤ (jx : Int) - i - 1 ∧ M 37 4 ≤ M1 37 4) ∧ (lv < lx ∧ lx ≤ 50)) (hc0 : co = 0 → SY K W 6 b M M1 i lv re jx lx) (hc1 : co ≠ 0 → CDS M M1 ∧ ∃ o : Int, (bnd o = 6 ∧ o < 27 ∧ o = co + 14 ∧ 6 ≤ co) ∧ RSoQ (MC (M1 39) (M1 40) (M 37 4).toNat (M1 37 4).toNat (lx - lv)) K W 6 b o i lv jx lx), (400 - n).toNat = kk → G X (11 + 3 * (8 - b).toNat) RX2 cX2_readTerm 5 (some .boolean) (Qi (fun r M1 => IC M1 ∧ Fr (fun c => c = 30 ∨ c = 31 ∨ c = 37 ∨ c = 39 ∨ c = 40) M M1 ∧ M1 31 1 = M 31 1 ∧ M1 37 1 = M 37 1 ∧ ((r = 0 ∨ r = 1) ∧ ∃ (j : Nat) (lv1 : Int), M1 31 7 = (j : Int) ∧ M1 30 2 = lv1 ∧ i ≤ j ∧ j ≤ m ∧ SY K W 6 b M M1 i lv r j lv1))) 22 [(2, vi re), (3, vi co), (4, vi n), (0, vr X 30), (1, vi b)] [] M1 := by
  intro kk
  induction kk using Nat.strongRecOn with
  | ind kk ih =>
    intro re co n M1 ic1 fr1 q31_1 q37_1 h2 h3 h0 jx lx at1 lv1 ij ts1 nj hc0 hc1 hmes
    have hm4 := hts.m4
    refine g_iload (pc' := 24) 2 dX2_readTerm_22 rfl rfl ?_
    refine g_sipush (pc' := 27) (v := 400) dX2_readTerm_24 rfl (by decide) ?_
    refine g_ic_ge (pc' := 30) (tgt := 69) ⟨by omega, by omega⟩ (by decide) dX2_readTerm_27 rfl rfl (fun c1 => ?_) (fun c1 => ?_)
    · refine g_iload_n (pc' := 70) 0 dX2_readTerm_69 rfl rfl ?_
      refine g_zreturn dX2_readTerm_70 (by omega) ?_
      exact ⟨ic1, fr1, q31_1, q37_1, by omega, jx, lx, by omega, by omega, by omega, by omega, hc0 (by omega)⟩
    · refine g_iload_n (pc' := 31) 1 dX2_readTerm_30 rfl rfl ?_
      refine g_if_eq (pc' := 34) (tgt := 69) ⟨by omega, by omega⟩ dX2_readTerm_31 rfl rfl (fun c2 => ?_) (fun c2 => ?_)
      · refine g_iload_n (pc' := 70) 0 dX2_readTerm_69 rfl rfl ?_
        refine g_zreturn dX2_readTerm_70 (by omega) ?_
        exact ⟨ic1, fr1, q31_1, q37_1, by omega, jx, lx, by omega, by omega, by omega, by omega, hc0 (by omega)⟩
      · have njx := nj (by omega)
        obtain ⟨hcd, oo, ho⟩ := hc1 (by omega)
        have hcd1 := hcd.1
        refine g_aload_n (pc' := 35) 3 dX2_readTerm_34 rfl rfl ?_
        refine g_iload_n (pc' := 36) 4 dX2_readTerm_35 rfl rfl ?_
        refine g_callVi (pc' := 39) (As := [vi b]) (b := 30) (S := []) dX2_readTerm_36 rfl m_X2_156 w_X2_readPart (hsub M1 ic1 jx lx ts1 at1 (by omega) lv1 (by omega)) rfl ⟨_, _, _, rfl, rfl, rfl⟩ (by omega) (by decide) rfl (Nat.le_of_ble_eq_true rfl) (fun z4 M5 q3 => ?_)
        obtain ⟨iM5, fM50, eM5_31_1, eM5_37_1, pM5⟩ := q3
        have fM5 : Fr (fun c => c = 30 ∨ c = 31 ∨ c = 37 ∨ c = 39 ∨ c = 40) M M5 := Fr.tr fr1 fM50 (fun _ z => z)
        have q31_1_M5 : id (M5 31 1 = M 31 1) := eM5_31_1.trans q31_1
        have q37_1_M5 : id (M5 37 1 = M 37 1) := eM5_37_1.trans q37_1
        clear eM5_31_1 eM5_37_1
        have tsM5 : TS M5 K W m := TS.fr ts1 fM50 (fun c h1 h2 => by first | omega | (dsimp only; omega))
        obtain ⟨pzM5, jM5, lvM5, paM5, plM5, piM5, pmM5, yM5⟩ := pM5
        have gM5 := yM5.rs
        have ylM5 : (M1 37 4 ≤ M5 37 4 ∧ M5 37 4 - M1 37 4 ≤ (jM5 : Int) - jx) ∧ (z4 = 1 → lx < lvM5 ∧ lvM5 ≤ 50) := ⟨yM5.2.1, fun z => (yM5.2.2 z).2.2.1⟩
        refine g_istore_n (pc' := 40) (i := 2) (L' := [(2, vi z4), (3, vi co), (4, vi n), (0, vr X 30), (1, vi b)]) dX2_readTerm_39 rfl rfl (by decide) rfl ?_
        refine g_aload_n (pc' := 41) 3 dX2_readTerm_40 rfl rfl ?_
        refine g_getR (pc' := 44) dX2_readTerm_41 rfl f_X2_21 rfl rfl ?_
        refine g_iload_n (pc' := 45) 1 dX2_readTerm_44 rfl rfl ?_
        refine g_iconst (pc' := 46) dX2_readTerm_45 rfl ?_
        refine g_callVi (pc' := 49) (As := [vi co, vi 0]) (b := 37) (S := []) dX2_readTerm_46 rfl m_X2_129 w_X4_write (c_X4_write_y X M5 iM5 co ⟨by omega, by omega⟩ 0 (by decide)) rfl ⟨_, _, _, rfl, rfl, rfl⟩ (by omega) (by decide) rfl (Nat.le_of_ble_eq_true rfl) (fun z7 M8 q6 => ?_)
        obtain ⟨iM8, fM80, eM8_37_1, pM8⟩ := q6
        have fM8 : Fr (fun c => c = 30 ∨ c = 31 ∨ c = 37 ∨ c = 39 ∨ c = 40) M M8 := Fr.tr fM5 fM80 fi_69
        have q31_1_M8 : id (M8 31 1 = M 31 1) := (congrFun (fM80 31 (by first | decide | omega | (dsimp only; omega))) 1).trans q31_1_M5
        have q37_1_M8 : id (M8 37 1 = M 37 1) := eM8_37_1.trans q37_1_M5
        have wM8_30_2 : M8 30 2 = M5 30 2 := (congrFun (fM80 30 (by first | decide | omega | (dsimp only; omega))) 2)
        have wM8_31_7 : M8 31 7 = M5 31 7 := (congrFun (fM80 31 (by first | decide | omega | (dsimp only; omega))) 7)
        clear eM8_37_1
        have tsM8 : TS M8 K W m := TS.fr tsM5 fM80 (fun c h1 h2 => by first | omega | (dsimp only; omega))
        obtain ⟨wrM8, wzM8, w9M8, w0M8⟩ := pM8.2 (by omega)
        clear pM8
        have k39M8 : M8 39 = ms (M5 39) (M5 37 4).toNat co := by rw [w9M8]
        have k40M8 : M8 40 = ms (M5 40) (M5 37 4).toNat 0 := by rw [w0M8]
        refine g_pop (pc' := 50) dX2_readTerm_49 rfl rfl ?_
        refine g_iload_n (pc' := 51) 0 dX2_readTerm_50 rfl rfl ?_
        refine g_if_eq (pc' := 54) (tgt := 61) ⟨by omega, by omega⟩ dX2_readTerm_51 rfl rfl (fun c9 => ?_) (fun c9 => ?_)
        · refine g_iconst (pc' := 62) dX2_readTerm_61 rfl ?_
          refine g_istore_n (pc' := 63) (i := 3) (L' := [(3, vi 0), (2, vi z4), (4, vi n), (0, vr X 30), (1, vi b)]) dX2_readTerm_62 rfl rfl (by decide) rfl ?_
          refine g_iinc (pc' := 66) (L' := [(4, vi (n + 1)), (3, vi 0), (2, vi z4), (0, vr X 30), (1, vi b)]) 2 dX2_readTerm_63 rfl rfl (by decide) rfl ?_
          refine g_goto (tgt := 22) dX2_readTerm_66 rfl ?_
          refine g_sub [2, 1, 0, 3, 4] rfl ?_
          exact ih _ (by omega) z4 0 (n + 1) M8 iM8 fM8 q31_1_M8 q37_1_M8 (by omega) (by omega) (by omega) jM5 lvM5 (by omega) (by omega) (by omega) tsM8 (fun z => absurd rfl z) (fun _ => SY.n (by omega) (by omega) (RS.n ((ho.2.q.no (l := 6) ho.1.1 (by omega) (gM5.2 (by omega)))))) (fun z => absurd rfl z) rfl
        · refine g_aload_n (pc' := 55) 3 dX2_readTerm_54 rfl rfl ?_
          refine g_callVi (pc' := 58) (As := []) (b := 30) (S := []) dX2_readTerm_55 rfl m_X2_159 w_X2_takeTermSign (c_X2_takeTermSign_y X M8 iM8 K W m jM5 tsM8 (by omega) (by omega) lvM5 (by omega) (by omega)) rfl ⟨_, _, _, rfl, rfl, rfl⟩ (by omega) (by decide) rfl (Nat.le_of_ble_eq_true rfl) (fun z11 M12 q10 => ?_)
          obtain ⟨iM12, fM120, eM12_31_1, eM12_37_1, pM12⟩ := q10
          have fM12 : Fr (fun c => c = 30 ∨ c = 31 ∨ c = 37 ∨ c = 39 ∨ c = 40) M M12 := Fr.tr fM8 fM120 fi_67
          have q31_1_M12 : id (M12 31 1 = M 31 1) := eM12_31_1.trans q31_1_M8
          have q37_1_M12 : id (M12 37 1 = M 37 1) := eM12_37_1.trans q37_1_M8
          have wM12_30_2 : M12 30 2 = M8 30 2 := (congrFun (fM120 30 (by first | decide | omega | (dsimp only; omega))) 2)
          have wM12_37_4 : M12 37 4 = M8 37 4 := (congrFun (fM120 37 (by first | decide | omega | (dsimp only; omega))) 4)
          clear eM12_31_1 eM12_37_1
          have tsM12 : TS M12 K W m := TS.fr tsM8 fM120 (fun c h1 h2 => by first | omega | (dsimp only; omega))
          have k39M12 : M12 39 = ms (M5 39) (M5 37 4).toNat co := (fM120 39 (by decide)).trans k39M8
          have k40M12 : M12 40 = ms (M5 40) (M5 37 4).toNat 0 := (fM120 40 (by decide)).trans k40M8
          refine g_goto (tgt := 62) dX2_readTerm_58 rfl ?_
          rcases (show z11 = 8 ∨ z11 = 9 ∨ z11 = 0 by omega) with rfl | rfl | rfl
          · have zc9 := k39M12
            have zc0 := k40M12
            have ys := (gM5.1 (by omega)).2.1
            have yq := ylM5
            refine g_istore_n (pc' := 63) (i := 3) (L' := [(3, vi 8), (2, vi z4), (4, vi n), (0, vr X 30), (1, vi b)]) dX2_readTerm_62 rfl rfl (by decide) rfl ?_
            refine g_iinc (pc' := 66) (L' := [(4, vi (n + 1)), (3, vi 8), (2, vi z4), (0, vr X 30), (1, vi b)]) 2 dX2_readTerm_63 rfl rfl (by decide) rfl ?_
            refine g_goto (tgt := 22) dX2_readTerm_66 rfl ?_
            refine g_sub [2, 1, 0, 3, 4] rfl ?_
            exact ih _ (by omega) z4 8 (n + 1) M12 iM12 fM12 q31_1_M12 q37_1_M12 (by omega) (by omega) (by omega) (jM5 + 1) lvM5 (by omega) (by omega) (by omega) tsM12 (by omega) (fun z => absurd z (by decide)) (fun _ => ⟨(hcd.tr (CDS.wr (yM5.2.2 (by omega)).2.1 (by omega) (by omega) zc9 zc0 (by rw [show M5 37 4 = M5 37 4 by omega]))), 22, ⟨rfl, by decide, by decide, by decide⟩, ((ho.2.nx (l := 6) ho.1.1 ho.1.2.1 (yM5.2.2 (by omega)).2.2.2 (fun f k q1 q2 => by rw [ho.1.2.2.1]; exact MC.b2 q1 q2 (yM5.2.2 (by omega)).2.1 (by omega) zc9 zc0 (by rw [show M5 37 4 = M5 37 4 by omega]) (by omega) (by omega) (by omega)))).op (su_42 (by omega))⟩) rfl
          · have zc9 := k39M12
            have zc0 := k40M12
            have ys := (gM5.1 (by omega)).2.1
            have yq := ylM5
            refine g_istore_n (pc' := 63) (i := 3) (L' := [(3, vi 9), (2, vi z4), (4, vi n), (0, vr X 30), (1, vi b)]) dX2_readTerm_62 rfl rfl (by decide) rfl ?_
            refine g_iinc (pc' := 66) (L' := [(4, vi (n + 1)), (3, vi 9), (2, vi z4), (0, vr X 30), (1, vi b)]) 2 dX2_readTerm_63 rfl rfl (by decide) rfl ?_
            refine g_goto (tgt := 22) dX2_readTerm_66 rfl ?_
            refine g_sub [2, 1, 0, 3, 4] rfl ?_
            exact ih _ (by omega) z4 9 (n + 1) M12 iM12 fM12 q31_1_M12 q37_1_M12 (by omega) (by omega) (by omega) (jM5 + 1) lvM5 (by omega) (by omega) (by omega) tsM12 (by omega) (fun z => absurd z (by decide)) (fun _ => ⟨(hcd.tr (CDS.wr (yM5.2.2 (by omega)).2.1 (by omega) (by omega) zc9 zc0 (by rw [show M5 37 4 = M5 37 4 by omega]))), 23, ⟨rfl, by decide, by decide, by decide⟩, ((ho.2.nx (l := 6) ho.1.1 ho.1.2.1 (yM5.2.2 (by omega)).2.2.2 (fun f k q1 q2 => by rw [ho.1.2.2.1]; exact MC.b2 q1 q2 (yM5.2.2 (by omega)).2.1 (by omega) zc9 zc0 (by rw [show M5 37 4 = M5 37 4 by omega]) (by omega) (by omega) (by omega)))).op (su_47 (by omega))⟩) rfl
          · have zc9 := k39M12
            have zc0 := k40M12
            have yq := ylM5
            refine g_istore_n (pc' := 63) (i := 3) (L' := [(3, vi 0), (2, vi z4), (4, vi n), (0, vr X 30), (1, vi b)]) dX2_readTerm_62 rfl rfl (by decide) rfl ?_
            refine g_iinc (pc' := 66) (L' := [(4, vi (n + 1)), (3, vi 0), (2, vi z4), (0, vr X 30), (1, vi b)]) 2 dX2_readTerm_63 rfl rfl (by decide) rfl ?_
            refine g_goto (tgt := 22) dX2_readTerm_66 rfl ?_
            refine g_sub [2, 1, 0, 3, 4] rfl ?_
            exact ih _ (by omega) z4 0 (n + 1) M12 iM12 fM12 q31_1_M12 q37_1_M12 (by omega) (by omega) (by omega) jM5 lvM5 (by omega) (by omega) (by omega) tsM12 (fun z => absurd rfl z) (fun _ => ⟨fun z => by omega, by omega, fun _ => ⟨⟨fun _ => ⟨by omega, by omega⟩, fun z => absurd z (by decide)⟩, (hcd.tr (CDS.wr (yM5.2.2 (by omega)).2.1 (by omega) (by omega) zc9 zc0 (by rw [show M5 37 4 = M5 37 4 by omega]))), by omega, (ho.2.nx (l := 6) ho.1.1 ho.1.2.1 (yM5.2.2 (by omega)).2.2.2 (fun f k q1 q2 => by rw [ho.1.2.2.1]; exact MC.b2 q1 q2 (yM5.2.2 (by omega)).2.1 (by omega) zc9 zc0 (by rw [show M5 37 4 = M5 37 4 by omega]) (by omega) (by omega) (by omega)))⟩⟩) (fun z => absurd rfl z) rfl
set_option maxHeartbeats 4000000 in
set_option maxRecDepth 100000 in
theorem c_X2_readTerm_y (X : Cx) (M : Mm) (hi : IC M) (b : Int) (hb : inI b) (K W : Nat → Int) (m i : Nat) (hts : TS M K W m) (hat : M 31 7 = (i : Int)) (him : i ≤ m) (lv : Int) (hlv : M 30 2 = lv) (hsl : 0 ≤ M 37 4 ∧ M 37 4 ≤ (i : Int)) (hb8 : 0 ≤ b ∧ b ≤ 8) (hsub : ∀ (M : Mm) (_ : IC M) (i : Nat) (lv : Int), TS M K W m → M 31 7 = (i : Int) → i ≤ m → M 30 2 = lv → (0 ≤ M 37 4 ∧ M 37 4 ≤ (i : Int)) → Con X (10 + 3 * (8 - b).toNat) yX2_readPart cX2_readPart 4 (some .boolean) [vr X 30, vi b] M (Qi (fun r M1 => IC M1 ∧ Fr (fun c => c = 30 ∨ c = 31 ∨ c = 37 ∨ c = 39 ∨ c = 40) M M1 ∧ M1 31 1 = M 31 1 ∧ M1 37 1 = M 37 1 ∧ ((r = 0 ∨ r = 1) ∧ ∃ (j : Nat) (lv1 : Int), M1 31 7 = (j : Int) ∧ M1 30 2 = lv1 ∧ i ≤ j ∧ j ≤ m ∧ SY K W 7 b M M1 i lv r j lv1)))) : Con X (11 + 3 * (8 - b).toNat) yX2_readTerm cX2_readTerm 5 (some .boolean) [vr X 30, vi b] M (Qi (fun r M1 => IC M1 ∧ Fr (fun c => c = 30 ∨ c = 31 ∨ c = 37 ∨ c = 39 ∨ c = 40) M M1 ∧ M1 31 1 = M 31 1 ∧ M1 37 1 = M 37 1 ∧ ((r = 0 ∨ r = 1) ∧ ∃ (j : Nat) (lv1 : Int), M1 31 7 = (j : Int) ∧ M1 30 2 = lv1 ∧ i ≤ j ∧ j ≤ m ∧ SY K W 6 b M M1 i lv r j lv1))) := by
  refine Con.ofG rfl (Nat.le_of_ble_eq_true rfl) ?_
  show G X (11 + 3 * (8 - b).toNat) RX2 cX2_readTerm 5 (some .boolean) (Qi (fun r M1 => IC M1 ∧ Fr (fun c => c = 30 ∨ c = 31 ∨ c = 37 ∨ c = 39 ∨ c = 40) M M1 ∧ M1 31 1 = M 31 1 ∧ M1 37 1 = M 37 1 ∧ ((r = 0 ∨ r = 1) ∧ ∃ (j : Nat) (lv1 : Int), M1 31 7 = (j : Int) ∧ M1 30 2 = lv1 ∧ i ≤ j ∧ j ≤ m ∧ SY K W 6 b M M1 i lv r j lv1))) 0 [(0, vr X 30), (1, vi b)] [] M
  have hm4 := hts.m4
  have hw0 : K i = 2 → 0 ≤ W i := fun z => (hts.num him z).2
  refine g_aload_n (pc' := 1) 0 dX2_readTerm_0 rfl rfl ?_
  refine g_iload_n (pc' := 2) 1 dX2_readTerm_1 rfl rfl ?_
  refine g_callVi (pc' := 5) (As := [vi b]) (b := 30) (S := []) dX2_readTerm_2 rfl m_X2_156 w_X2_readPart (hsub M hi i lv hts hat him hlv (by omega)) rfl ⟨_, _, _, rfl, rfl, rfl⟩ (by omega) (by decide) rfl (Nat.le_of_ble_eq_true rfl) (fun z2 M3 q1 => ?_)
  obtain ⟨iM3, fM30, eM3_31_1, eM3_37_1, pM3⟩ := q1
  have fM3 : Fr (fun c => c = 30 ∨ c = 31 ∨ c = 37 ∨ c = 39 ∨ c = 40) M M3 := Fr.tr Fr.rf fM30 (fun _ z => z)
  have q31_1_M3 : id (M3 31 1 = M 31 1) := eM3_31_1
  have q37_1_M3 : id (M3 37 1 = M 37 1) := eM3_37_1
  clear eM3_31_1 eM3_37_1
  have tsM3 : TS M3 K W m := TS.fr hts fM30 (fun c h1 h2 => by first | omega | (dsimp only; omega))
  obtain ⟨pzM3, jM3, lvM3, paM3, plM3, piM3, pmM3, yM3⟩ := pM3
  have gM3 := yM3.rs
  have ylM3 : (M 37 4 ≤ M3 37 4 ∧ M3 37 4 - M 37 4 ≤ (jM3 : Int) - i) ∧ (z2 = 1 → lv < lvM3 ∧ lvM3 ≤ 50) := ⟨yM3.2.1, fun z => (yM3.2.2 z).2.2.1⟩
  refine g_istore_n (pc' := 6) (i := 2) (L' := [(2, vi z2), (0, vr X 30), (1, vi b)]) dX2_readTerm_5 rfl rfl (by decide) rfl ?_
  refine g_iload_n (pc' := 7) 0 dX2_readTerm_6 rfl rfl ?_
  refine g_if_eq (pc' := 10) (tgt := 17) ⟨by omega, by omega⟩ dX2_readTerm_7 rfl rfl (fun c4 => ?_) (fun c4 => ?_)
  · refine g_iconst (pc' := 18) dX2_readTerm_17 rfl ?_
    refine g_istore_n (pc' := 19) (i := 3) (L' := [(3, vi 0), (2, vi z2), (0, vr X 30), (1, vi b)]) dX2_readTerm_18 rfl rfl (by decide) rfl ?_
    refine g_iconst (pc' := 20) dX2_readTerm_19 rfl ?_
    refine g_istore (pc' := 22) (L' := [(4, vi 0), (3, vi 0), (2, vi z2), (0, vr X 30), (1, vi b)]) dX2_readTerm_20 rfl (by decide) rfl ?_
    refine g_sub [2, 1, 0, 3, 4] rfl ?_
    exact l_X2_readTerm_y_22 X M hi b hb K W m i hts hat him lv hlv hsl hb8 hsub _ z2 0 0 M3 iM3 fM3 q31_1_M3 q37_1_M3 (by omega) (by omega) (by omega) jM3 lvM3 (by omega) (by omega) (by omega) tsM3 (fun z => absurd rfl z) (fun _ => SY.n (by omega) (by omega) (RS.n (RSb.up (l := 6) (gM3.2 (by omega))))) (fun z => absurd rfl z) rfl
  · refine g_aload_n (pc' := 11) 1 dX2_readTerm_10 rfl rfl ?_
    refine g_callVi (pc' := 14) (As := []) (b := 30) (S := []) dX2_readTerm_11 rfl m_X2_159 w_X2_takeTermSign (c_X2_takeTermSign_y X M3 iM3 K W m jM3 tsM3 (by omega) (by omega) lvM3 (by omega) (by omega)) rfl ⟨_, _, _, rfl, rfl, rfl⟩ (by omega) (by decide) rfl (Nat.le_of_ble_eq_true rfl) (fun z6 M7 q5 => ?_)
    obtain ⟨iM7, fM70, eM7_31_1, eM7_37_1, pM7⟩ := q5
    have fM7 : Fr (fun c => c = 30 ∨ c = 31 ∨ c = 37 ∨ c = 39 ∨ c = 40) M M7 := Fr.tr fM3 fM70 fi_67
    have q31_1_M7 : id (M7 31 1 = M 31 1) := eM7_31_1.trans q31_1_M3
    have q37_1_M7 : id (M7 37 1 = M 37 1) := eM7_37_1.trans q37_1_M3
    have wM7_30_2 : M7 30 2 = M3 30 2 := (congrFun (fM70 30 (by first | decide | omega | (dsimp only; omega))) 2)
    have wM7_37_4 : M7 37 4 = M3 37 4 := (congrFun (fM70 37 (by first | decide | omega | (dsimp only; omega))) 4)
    clear eM7_31_1 eM7_37_1
    have tsM7 : TS M7 K W m := TS.fr tsM3 fM70 (fun c h1 h2 => by first | omega | (dsimp only; omega))
    have k39M7 : M7 39 = M3 39 := (fM70 39 (by decide))
    have k40M7 : M7 40 = M3 40 := (fM70 40 (by decide))
    refine g_goto (tgt := 18) dX2_readTerm_14 rfl ?_
    rcases (show z6 = 8 ∨ z6 = 9 ∨ z6 = 0 by omega) with rfl | rfl | rfl
    · have ys := (gM3.1 (by omega)).2.1
      have yq := ylM3
      refine g_istore_n (pc' := 19) (i := 3) (L' := [(3, vi 8), (2, vi z2), (0, vr X 30), (1, vi b)]) dX2_readTerm_18 rfl rfl (by decide) rfl ?_
      refine g_iconst (pc' := 20) dX2_readTerm_19 rfl ?_
      refine g_istore (pc' := 22) (L' := [(4, vi 0), (3, vi 8), (2, vi z2), (0, vr X 30), (1, vi b)]) dX2_readTerm_20 rfl (by decide) rfl ?_
      refine g_sub [2, 1, 0, 3, 4] rfl ?_
      exact l_X2_readTerm_y_22 X M hi b hb K W m i hts hat him lv hlv hsl hb8 hsub _ z2 8 0 M7 iM7 fM7 q31_1_M7 q37_1_M7 (by omega) (by omega) (by omega) (jM3 + 1) lvM3 (by omega) (by omega) (by omega) tsM7 (by omega) (fun z => absurd z (by decide)) (fun _ => ⟨((yM3.2.2 (by omega)).2.1.tr (CDS.eq (by omega) k39M7 k40M7)), 22, ⟨rfl, by decide, by decide, by decide⟩, ((RSmQ.up (l := 6) ((yM3.2.2 (by omega)).2.2.2.mp (fun f q => by rw [k39M7, k40M7, show M7 37 4 = M3 37 4 by omega]; exact q)))).op (su_42 (by omega))⟩) rfl
    · have ys := (gM3.1 (by omega)).2.1
      have yq := ylM3
      refine g_istore_n (pc' := 19) (i := 3) (L' := [(3, vi 9), (2, vi z2), (0, vr X 30), (1, vi b)]) dX2_readTerm_18 rfl rfl (by decide) rfl ?_
      refine g_iconst (pc' := 20) dX2_readTerm_19 rfl ?_
      refine g_istore (pc' := 22) (L' := [(4, vi 0), (3, vi 9), (2, vi z2), (0, vr X 30), (1, vi b)]) dX2_readTerm_20 rfl (by decide) rfl ?_
      refine g_sub [2, 1, 0, 3, 4] rfl ?_
      exact l_X2_readTerm_y_22 X M hi b hb K W m i hts hat him lv hlv hsl hb8 hsub _ z2 9 0 M7 iM7 fM7 q31_1_M7 q37_1_M7 (by omega) (by omega) (by omega) (jM3 + 1) lvM3 (by omega) (by omega) (by omega) tsM7 (by omega) (fun z => absurd z (by decide)) (fun _ => ⟨((yM3.2.2 (by omega)).2.1.tr (CDS.eq (by omega) k39M7 k40M7)), 23, ⟨rfl, by decide, by decide, by decide⟩, ((RSmQ.up (l := 6) ((yM3.2.2 (by omega)).2.2.2.mp (fun f q => by rw [k39M7, k40M7, show M7 37 4 = M3 37 4 by omega]; exact q)))).op (su_47 (by omega))⟩) rfl
    · have yq := ylM3
      refine g_istore_n (pc' := 19) (i := 3) (L' := [(3, vi 0), (2, vi z2), (0, vr X 30), (1, vi b)]) dX2_readTerm_18 rfl rfl (by decide) rfl ?_
      refine g_iconst (pc' := 20) dX2_readTerm_19 rfl ?_
      refine g_istore (pc' := 22) (L' := [(4, vi 0), (3, vi 0), (2, vi z2), (0, vr X 30), (1, vi b)]) dX2_readTerm_20 rfl (by decide) rfl ?_
      refine g_sub [2, 1, 0, 3, 4] rfl ?_
      exact l_X2_readTerm_y_22 X M hi b hb K W m i hts hat him lv hlv hsl hb8 hsub _ z2 0 0 M7 iM7 fM7 q31_1_M7 q37_1_M7 (by omega) (by omega) (by omega) jM3 lvM3 (by omega) (by omega) (by omega) tsM7 (fun z => absurd rfl z) (fun _ => ⟨fun z => by omega, by omega, fun _ => ⟨⟨fun _ => ⟨by omega, by omega⟩, fun z => absurd z (by decide)⟩, ((yM3.2.2 (by omega)).2.1.tr (CDS.eq (by omega) k39M7 k40M7)), by omega, (RSmQ.up (l := 6) ((yM3.2.2 (by omega)).2.2.2.mp (fun f q => by rw [k39M7, k40M7, show M7 37 4 = M3 37 4 by omega]; exact q)))⟩⟩) (fun z => absurd rfl z) rfl
set_option maxHeartbeats 4000000 in
set_option maxRecDepth 100000 in
theorem l_X2_readSum_y_22 (X : Cx) (M : Mm) (hi : IC M) (b : Int) (hb : inI b) (K W : Nat → Int) (m i : Nat) (hts : TS M K W m) (hat : M 31 7 = (i : Int)) (him : i ≤ m) (lv : Int) (hlv : M 30 2 = lv) (hsl : 0 ≤ M 37 4 ∧ M 37 4 ≤ (i : Int)) (hb8 : 0 ≤ b ∧ b ≤ 8) (hsub : ∀ (M : Mm) (_ : IC M) (i : Nat) (lv : Int), TS M K W m → M 31 7 = (i : Int) → i ≤ m → M 30 2 = lv → (0 ≤ M 37 4 ∧ M 37 4 ≤ (i : Int)) → Con X (11 + 3 * (8 - b).toNat) yX2_readTerm cX2_readTerm 5 (some .boolean) [vr X 30, vi b] M (Qi (fun r M1 => IC M1 ∧ Fr (fun c => c = 30 ∨ c = 31 ∨ c = 37 ∨ c = 39 ∨ c = 40) M M1 ∧ M1 31 1 = M 31 1 ∧ M1 37 1 = M 37 1 ∧ ((r = 0 ∨ r = 1) ∧ ∃ (j : Nat) (lv1 : Int), M1 31 7 = (j : Int) ∧ M1 30 2 = lv1 ∧ i ≤ j ∧ j ≤ m ∧ SY K W 6 b M M1 i lv r j lv1)))) : ∀ (kk : Nat) (re : Int) (co : Int) (n : Int) (M1 : Mm) (ic1 : IC M1) (fr1 : Fr (fun c => c = 30 ∨ c = 31 ∨ c = 37 ∨ c = 39 ∨ c = 40) M M1) (q31_1 : id (M1 31 1 = M 31 1)) (q37_1 : id (M1 37 1 = M 37 1)) (h2 : re = 0 ∨ re = 1) (h3 : 0 ≤ co ∧ co ≤ 12) (h0 : 0 ≤ n ∧ n ≤ 400) (jx : Nat) (lx : Int) (at1 : M1 31 7 = (jx : Int)) (lv1 : M1 30 2 = lx) (ij : i ≤ jx ∧ jx ≤ m) (ts1 : TS M1 K W m) (nj : co ≠ 0 → (n + 2 ≤ jx ∧ re = 1) ∧ (M1 37 4 - M 37 4 ≤ (jx : Int) - i - 1 ∧ M 37 4 ≤ M1 37 4) ∧ (lv < lx ∧ lx ≤ 50)) (hc0 : co = 0 → SY K W 5 b M M1 i lv re jx lx) (hc1 : co ≠ 0 → CDS M M1 ∧ ∃ o : Int, (bnd o = 5 ∧ o < 27 ∧ o = co + 14 ∧ 6 ≤ co) ∧ RSoQ (MC (M1 39) (M1 40) (M 37 4).toNat (M1 37 4).toNat (lx - lv)) K W 5 b o i lv jx lx), (400 - n).toNat = kk → G X (12 + 3 * (8 - b).toNat) RX2 cX2_readSum 5 (some .boolean) (Qi (fun r M1 => IC M1 ∧ Fr (fun c => c = 30 ∨ c = 31 ∨ c = 37 ∨ c = 39 ∨ c = 40) M M1 ∧ M1 31 1 = M 31 1 ∧ M1 37 1 = M 37 1 ∧ ((r = 0 ∨ r = 1) ∧ ∃ (j : Nat) (lv1 : Int), M1 31 7 = (j : Int) ∧ M1 30 2 = lv1 ∧ i ≤ j ∧ j ≤ m ∧ SY K W 5 b M M1 i lv r j lv1))) 22 [(2, vi re), (3, vi co), (4, vi n), (0, vr X 30), (1, vi b)] [] M1 := by
  intro kk
  induction kk using Nat.strongRecOn with
  | ind kk ih =>
    intro re co n M1 ic1 fr1 q31_1 q37_1 h2 h3 h0 jx lx at1 lv1 ij ts1 nj hc0 hc1 hmes
    have hm4 := hts.m4
    refine g_iload (pc' := 24) 2 dX2_readSum_22 rfl rfl ?_
    refine g_sipush (pc' := 27) (v := 400) dX2_readSum_24 rfl (by decide) ?_
    refine g_ic_ge (pc' := 30) (tgt := 69) ⟨by omega, by omega⟩ (by decide) dX2_readSum_27 rfl rfl (fun c1 => ?_) (fun c1 => ?_)
    · refine g_iload_n (pc' := 70) 0 dX2_readSum_69 rfl rfl ?_
      refine g_zreturn dX2_readSum_70 (by omega) ?_
      exact ⟨ic1, fr1, q31_1, q37_1, by omega, jx, lx, by omega, by omega, by omega, by omega, hc0 (by omega)⟩
    · refine g_iload_n (pc' := 31) 1 dX2_readSum_30 rfl rfl ?_
      refine g_if_eq (pc' := 34) (tgt := 69) ⟨by omega, by omega⟩ dX2_readSum_31 rfl rfl (fun c2 => ?_) (fun c2 => ?_)
      · refine g_iload_n (pc' := 70) 0 dX2_readSum_69 rfl rfl ?_
        refine g_zreturn dX2_readSum_70 (by omega) ?_
        exact ⟨ic1, fr1, q31_1, q37_1, by omega, jx, lx, by omega, by omega, by omega, by omega, hc0 (by omega)⟩
      · have njx := nj (by omega)
        obtain ⟨hcd, oo, ho⟩ := hc1 (by omega)
        have hcd1 := hcd.1
        refine g_aload_n (pc' := 35) 3 dX2_readSum_34 rfl rfl ?_
        refine g_iload_n (pc' := 36) 4 dX2_readSum_35 rfl rfl ?_
        refine g_callVi (pc' := 39) (As := [vi b]) (b := 30) (S := []) dX2_readSum_36 rfl m_X2_150 w_X2_readTerm (hsub M1 ic1 jx lx ts1 at1 (by omega) lv1 (by omega)) rfl ⟨_, _, _, rfl, rfl, rfl⟩ (by omega) (by decide) rfl (Nat.le_of_ble_eq_true rfl) (fun z4 M5 q3 => ?_)
        obtain ⟨iM5, fM50, eM5_31_1, eM5_37_1, pM5⟩ := q3
        have fM5 : Fr (fun c => c = 30 ∨ c = 31 ∨ c = 37 ∨ c = 39 ∨ c = 40) M M5 := Fr.tr fr1 fM50 (fun _ z => z)
        have q31_1_M5 : id (M5 31 1 = M 31 1) := eM5_31_1.trans q31_1
        have q37_1_M5 : id (M5 37 1 = M 37 1) := eM5_37_1.trans q37_1
        clear eM5_31_1 eM5_37_1
        have tsM5 : TS M5 K W m := TS.fr ts1 fM50 (fun c h1 h2 => by first | omega | (dsimp only; omega))
        obtain ⟨pzM5, jM5, lvM5, paM5, plM5, piM5, pmM5, yM5⟩ := pM5
        have gM5 := yM5.rs
        have ylM5 : (M1 37 4 ≤ M5 37 4 ∧ M5 37 4 - M1 37 4 ≤ (jM5 : Int) - jx) ∧ (z4 = 1 → lx < lvM5 ∧ lvM5 ≤ 50) := ⟨yM5.2.1, fun z => (yM5.2.2 z).2.2.1⟩
        refine g_istore_n (pc' := 40) (i := 2) (L' := [(2, vi z4), (3, vi co), (4, vi n), (0, vr X 30), (1, vi b)]) dX2_readSum_39 rfl rfl (by decide) rfl ?_
        refine g_aload_n (pc' := 41) 3 dX2_readSum_40 rfl rfl ?_
        refine g_getR (pc' := 44) dX2_readSum_41 rfl f_X2_21 rfl rfl ?_
        refine g_iload_n (pc' := 45) 1 dX2_readSum_44 rfl rfl ?_
        refine g_iconst (pc' := 46) dX2_readSum_45 rfl ?_
        refine g_callVi (pc' := 49) (As := [vi co, vi 0]) (b := 37) (S := []) dX2_readSum_46 rfl m_X2_129 w_X4_write (c_X4_write_y X M5 iM5 co ⟨by omega, by omega⟩ 0 (by decide)) rfl ⟨_, _, _, rfl, rfl, rfl⟩ (by omega) (by decide) rfl (Nat.le_of_ble_eq_true rfl) (fun z7 M8 q6 => ?_)
        obtain ⟨iM8, fM80, eM8_37_1, pM8⟩ := q6
        have fM8 : Fr (fun c => c = 30 ∨ c = 31 ∨ c = 37 ∨ c = 39 ∨ c = 40) M M8 := Fr.tr fM5 fM80 fi_69
        have q31_1_M8 : id (M8 31 1 = M 31 1) := (congrFun (fM80 31 (by first | decide | omega | (dsimp only; omega))) 1).trans q31_1_M5
        have q37_1_M8 : id (M8 37 1 = M 37 1) := eM8_37_1.trans q37_1_M5
        have wM8_30_2 : M8 30 2 = M5 30 2 := (congrFun (fM80 30 (by first | decide | omega | (dsimp only; omega))) 2)
        have wM8_31_7 : M8 31 7 = M5 31 7 := (congrFun (fM80 31 (by first | decide | omega | (dsimp only; omega))) 7)
        clear eM8_37_1
        have tsM8 : TS M8 K W m := TS.fr tsM5 fM80 (fun c h1 h2 => by first | omega | (dsimp only; omega))
        obtain ⟨wrM8, wzM8, w9M8, w0M8⟩ := pM8.2 (by omega)
        clear pM8
        have k39M8 : M8 39 = ms (M5 39) (M5 37 4).toNat co := by rw [w9M8]
        have k40M8 : M8 40 = ms (M5 40) (M5 37 4).toNat 0 := by rw [w0M8]
        refine g_pop (pc' := 50) dX2_readSum_49 rfl rfl ?_
        refine g_iload_n (pc' := 51) 0 dX2_readSum_50 rfl rfl ?_
        refine g_if_eq (pc' := 54) (tgt := 61) ⟨by omega, by omega⟩ dX2_readSum_51 rfl rfl (fun c9 => ?_) (fun c9 => ?_)
        · refine g_iconst (pc' := 62) dX2_readSum_61 rfl ?_
          refine g_istore_n (pc' := 63) (i := 3) (L' := [(3, vi 0), (2, vi z4), (4, vi n), (0, vr X 30), (1, vi b)]) dX2_readSum_62 rfl rfl (by decide) rfl ?_
          refine g_iinc (pc' := 66) (L' := [(4, vi (n + 1)), (3, vi 0), (2, vi z4), (0, vr X 30), (1, vi b)]) 2 dX2_readSum_63 rfl rfl (by decide) rfl ?_
          refine g_goto (tgt := 22) dX2_readSum_66 rfl ?_
          refine g_sub [2, 1, 0, 3, 4] rfl ?_
          exact ih _ (by omega) z4 0 (n + 1) M8 iM8 fM8 q31_1_M8 q37_1_M8 (by omega) (by omega) (by omega) jM5 lvM5 (by omega) (by omega) (by omega) tsM8 (fun z => absurd rfl z) (fun _ => SY.n (by omega) (by omega) (RS.n ((ho.2.q.no (l := 5) ho.1.1 (by omega) (gM5.2 (by omega)))))) (fun z => absurd rfl z) rfl
        · refine g_aload_n (pc' := 55) 3 dX2_readSum_54 rfl rfl ?_
          refine g_callVi (pc' := 58) (As := []) (b := 30) (S := []) dX2_readSum_55 rfl m_X2_153 w_X2_takeSumSign (c_X2_takeSumSign_y X M8 iM8 K W m jM5 tsM8 (by omega) (by omega) lvM5 (by omega) (by omega)) rfl ⟨_, _, _, rfl, rfl, rfl⟩ (by omega) (by decide) rfl (Nat.le_of_ble_eq_true rfl) (fun z11 M12 q10 => ?_)
          obtain ⟨iM12, fM120, eM12_31_1, eM12_37_1, pM12⟩ := q10
          have fM12 : Fr (fun c => c = 30 ∨ c = 31 ∨ c = 37 ∨ c = 39 ∨ c = 40) M M12 := Fr.tr fM8 fM120 fi_67
          have q31_1_M12 : id (M12 31 1 = M 31 1) := eM12_31_1.trans q31_1_M8
          have q37_1_M12 : id (M12 37 1 = M 37 1) := eM12_37_1.trans q37_1_M8
          have wM12_30_2 : M12 30 2 = M8 30 2 := (congrFun (fM120 30 (by first | decide | omega | (dsimp only; omega))) 2)
          have wM12_37_4 : M12 37 4 = M8 37 4 := (congrFun (fM120 37 (by first | decide | omega | (dsimp only; omega))) 4)
          clear eM12_31_1 eM12_37_1
          have tsM12 : TS M12 K W m := TS.fr tsM8 fM120 (fun c h1 h2 => by first | omega | (dsimp only; omega))
          have k39M12 : M12 39 = ms (M5 39) (M5 37 4).toNat co := (fM120 39 (by decide)).trans k39M8
          have k40M12 : M12 40 = ms (M5 40) (M5 37 4).toNat 0 := (fM120 40 (by decide)).trans k40M8
          refine g_goto (tgt := 62) dX2_readSum_58 rfl ?_
          rcases (show z11 = 6 ∨ z11 = 7 ∨ z11 = 0 by omega) with rfl | rfl | rfl
          · have zc9 := k39M12
            have zc0 := k40M12
            have ys := (gM5.1 (by omega)).2.1
            have yq := ylM5
            refine g_istore_n (pc' := 63) (i := 3) (L' := [(3, vi 6), (2, vi z4), (4, vi n), (0, vr X 30), (1, vi b)]) dX2_readSum_62 rfl rfl (by decide) rfl ?_
            refine g_iinc (pc' := 66) (L' := [(4, vi (n + 1)), (3, vi 6), (2, vi z4), (0, vr X 30), (1, vi b)]) 2 dX2_readSum_63 rfl rfl (by decide) rfl ?_
            refine g_goto (tgt := 22) dX2_readSum_66 rfl ?_
            refine g_sub [2, 1, 0, 3, 4] rfl ?_
            exact ih _ (by omega) z4 6 (n + 1) M12 iM12 fM12 q31_1_M12 q37_1_M12 (by omega) (by omega) (by omega) (jM5 + 1) lvM5 (by omega) (by omega) (by omega) tsM12 (by omega) (fun z => absurd z (by decide)) (fun _ => ⟨(hcd.tr (CDS.wr (yM5.2.2 (by omega)).2.1 (by omega) (by omega) zc9 zc0 (by rw [show M5 37 4 = M5 37 4 by omega]))), 20, ⟨rfl, by decide, by decide, by decide⟩, ((ho.2.nx (l := 5) ho.1.1 ho.1.2.1 (yM5.2.2 (by omega)).2.2.2 (fun f k q1 q2 => by rw [ho.1.2.2.1]; exact MC.b2 q1 q2 (yM5.2.2 (by omega)).2.1 (by omega) zc9 zc0 (by rw [show M5 37 4 = M5 37 4 by omega]) (by omega) (by omega) (by omega)))).op (su_43 (by omega))⟩) rfl
          · have zc9 := k39M12
            have zc0 := k40M12
            have ys := (gM5.1 (by omega)).2.1
            have yq := ylM5
            refine g_istore_n (pc' := 63) (i := 3) (L' := [(3, vi 7), (2, vi z4), (4, vi n), (0, vr X 30), (1, vi b)]) dX2_readSum_62 rfl rfl (by decide) rfl ?_
            refine g_iinc (pc' := 66) (L' := [(4, vi (n + 1)), (3, vi 7), (2, vi z4), (0, vr X 30), (1, vi b)]) 2 dX2_readSum_63 rfl rfl (by decide) rfl ?_
            refine g_goto (tgt := 22) dX2_readSum_66 rfl ?_
            refine g_sub [2, 1, 0, 3, 4] rfl ?_
            exact ih _ (by omega) z4 7 (n + 1) M12 iM12 fM12 q31_1_M12 q37_1_M12 (by omega) (by omega) (by omega) (jM5 + 1) lvM5 (by omega) (by omega) (by omega) tsM12 (by omega) (fun z => absurd z (by decide)) (fun _ => ⟨(hcd.tr (CDS.wr (yM5.2.2 (by omega)).2.1 (by omega) (by omega) zc9 zc0 (by rw [show M5 37 4 = M5 37 4 by omega]))), 21, ⟨rfl, by decide, by decide, by decide⟩, ((ho.2.nx (l := 5) ho.1.1 ho.1.2.1 (yM5.2.2 (by omega)).2.2.2 (fun f k q1 q2 => by rw [ho.1.2.2.1]; exact MC.b2 q1 q2 (yM5.2.2 (by omega)).2.1 (by omega) zc9 zc0 (by rw [show M5 37 4 = M5 37 4 by omega]) (by omega) (by omega) (by omega)))).op (su_45 (by omega))⟩) rfl
          · have zc9 := k39M12
            have zc0 := k40M12
            have yq := ylM5
            refine g_istore_n (pc' := 63) (i := 3) (L' := [(3, vi 0), (2, vi z4), (4, vi n), (0, vr X 30), (1, vi b)]) dX2_readSum_62 rfl rfl (by decide) rfl ?_
            refine g_iinc (pc' := 66) (L' := [(4, vi (n + 1)), (3, vi 0), (2, vi z4), (0, vr X 30), (1, vi b)]) 2 dX2_readSum_63 rfl rfl (by decide) rfl ?_
            refine g_goto (tgt := 22) dX2_readSum_66 rfl ?_
            refine g_sub [2, 1, 0, 3, 4] rfl ?_
            exact ih _ (by omega) z4 0 (n + 1) M12 iM12 fM12 q31_1_M12 q37_1_M12 (by omega) (by omega) (by omega) jM5 lvM5 (by omega) (by omega) (by omega) tsM12 (fun z => absurd rfl z) (fun _ => ⟨fun z => by omega, by omega, fun _ => ⟨⟨fun _ => (gM5.1 (by omega)).1.1 (by decide), fun _ => ⟨by omega, by omega⟩⟩, (hcd.tr (CDS.wr (yM5.2.2 (by omega)).2.1 (by omega) (by omega) zc9 zc0 (by rw [show M5 37 4 = M5 37 4 by omega]))), by omega, (ho.2.nx (l := 5) ho.1.1 ho.1.2.1 (yM5.2.2 (by omega)).2.2.2 (fun f k q1 q2 => by rw [ho.1.2.2.1]; exact MC.b2 q1 q2 (yM5.2.2 (by omega)).2.1 (by omega) zc9 zc0 (by rw [show M5 37 4 = M5 37 4 by omega]) (by omega) (by omega) (by omega)))⟩⟩) (fun z => absurd rfl z) rfl
set_option maxHeartbeats 4000000 in
set_option maxRecDepth 100000 in
theorem c_X2_readSum_y (X : Cx) (M : Mm) (hi : IC M) (b : Int) (hb : inI b) (K W : Nat → Int) (m i : Nat) (hts : TS M K W m) (hat : M 31 7 = (i : Int)) (him : i ≤ m) (lv : Int) (hlv : M 30 2 = lv) (hsl : 0 ≤ M 37 4 ∧ M 37 4 ≤ (i : Int)) (hb8 : 0 ≤ b ∧ b ≤ 8) (hsub : ∀ (M : Mm) (_ : IC M) (i : Nat) (lv : Int), TS M K W m → M 31 7 = (i : Int) → i ≤ m → M 30 2 = lv → (0 ≤ M 37 4 ∧ M 37 4 ≤ (i : Int)) → Con X (11 + 3 * (8 - b).toNat) yX2_readTerm cX2_readTerm 5 (some .boolean) [vr X 30, vi b] M (Qi (fun r M1 => IC M1 ∧ Fr (fun c => c = 30 ∨ c = 31 ∨ c = 37 ∨ c = 39 ∨ c = 40) M M1 ∧ M1 31 1 = M 31 1 ∧ M1 37 1 = M 37 1 ∧ ((r = 0 ∨ r = 1) ∧ ∃ (j : Nat) (lv1 : Int), M1 31 7 = (j : Int) ∧ M1 30 2 = lv1 ∧ i ≤ j ∧ j ≤ m ∧ SY K W 6 b M M1 i lv r j lv1)))) : Con X (12 + 3 * (8 - b).toNat) yX2_readSum cX2_readSum 5 (some .boolean) [vr X 30, vi b] M (Qi (fun r M1 => IC M1 ∧ Fr (fun c => c = 30 ∨ c = 31 ∨ c = 37 ∨ c = 39 ∨ c = 40) M M1 ∧ M1 31 1 = M 31 1 ∧ M1 37 1 = M 37 1 ∧ ((r = 0 ∨ r = 1) ∧ ∃ (j : Nat) (lv1 : Int), M1 31 7 = (j : Int) ∧ M1 30 2 = lv1 ∧ i ≤ j ∧ j ≤ m ∧ SY K W 5 b M M1 i lv r j lv1))) := by
  refine Con.ofG rfl (Nat.le_of_ble_eq_true rfl) ?_
  show G X (12 + 3 * (8 - b).toNat) RX2 cX2_readSum 5 (some .boolean) (Qi (fun r M1 => IC M1 ∧ Fr (fun c => c = 30 ∨ c = 31 ∨ c = 37 ∨ c = 39 ∨ c = 40) M M1 ∧ M1 31 1 = M 31 1 ∧ M1 37 1 = M 37 1 ∧ ((r = 0 ∨ r = 1) ∧ ∃ (j : Nat) (lv1 : Int), M1 31 7 = (j : Int) ∧ M1 30 2 = lv1 ∧ i ≤ j ∧ j ≤ m ∧ SY K W 5 b M M1 i lv r j lv1))) 0 [(0, vr X 30), (1, vi b)] [] M
  have hm4 := hts.m4
  have hw0 : K i = 2 → 0 ≤ W i := fun z => (hts.num him z).2
  refine g_aload_n (pc' := 1) 0 dX2_readSum_0 rfl rfl ?_
  refine g_iload_n (pc' := 2) 1 dX2_readSum_1 rfl rfl ?_
  refine g_callVi (pc' := 5) (As := [vi b]) (b := 30) (S := []) dX2_readSum_2 rfl m_X2_150 w_X2_readTerm (hsub M hi i lv hts hat him hlv (by omega)) rfl ⟨_, _, _, rfl, rfl, rfl⟩ (by omega) (by decide) rfl (Nat.le_of_ble_eq_true rfl) (fun z2 M3 q1 => ?_)
  obtain ⟨iM3, fM30, eM3_31_1, eM3_37_1, pM3⟩ := q1
  have fM3 : Fr (fun c => c = 30 ∨ c = 31 ∨ c = 37 ∨ c = 39 ∨ c = 40) M M3 := Fr.tr Fr.rf fM30 (fun _ z => z)
  have q31_1_M3 : id (M3 31 1 = M 31 1) := eM3_31_1
  have q37_1_M3 : id (M3 37 1 = M 37 1) := eM3_37_1
  clear eM3_31_1 eM3_37_1
  have tsM3 : TS M3 K W m := TS.fr hts fM30 (fun c h1 h2 => by first | omega | (dsimp only; omega))
  obtain ⟨pzM3, jM3, lvM3, paM3, plM3, piM3, pmM3, yM3⟩ := pM3
  have gM3 := yM3.rs
  have ylM3 : (M 37 4 ≤ M3 37 4 ∧ M3 37 4 - M 37 4 ≤ (jM3 : Int) - i) ∧ (z2 = 1 → lv < lvM3 ∧ lvM3 ≤ 50) := ⟨yM3.2.1, fun z => (yM3.2.2 z).2.2.1⟩
  refine g_istore_n (pc' := 6) (i := 2) (L' := [(2, vi z2), (0, vr X 30), (1, vi b)]) dX2_readSum_5 rfl rfl (by decide) rfl ?_
  refine g_iload_n (pc' := 7) 0 dX2_readSum_6 rfl rfl ?_
  refine g_if_eq (pc' := 10) (tgt := 17) ⟨by omega, by omega⟩ dX2_readSum_7 rfl rfl (fun c4 => ?_) (fun c4 => ?_)
  · refine g_iconst (pc' := 18) dX2_readSum_17 rfl ?_
    refine g_istore_n (pc' := 19) (i := 3) (L' := [(3, vi 0), (2, vi z2), (0, vr X 30), (1, vi b)]) dX2_readSum_18 rfl rfl (by decide) rfl ?_
    refine g_iconst (pc' := 20) dX2_readSum_19 rfl ?_
    refine g_istore (pc' := 22) (L' := [(4, vi 0), (3, vi 0), (2, vi z2), (0, vr X 30), (1, vi b)]) dX2_readSum_20 rfl (by decide) rfl ?_
    refine g_sub [2, 1, 0, 3, 4] rfl ?_
    exact l_X2_readSum_y_22 X M hi b hb K W m i hts hat him lv hlv hsl hb8 hsub _ z2 0 0 M3 iM3 fM3 q31_1_M3 q37_1_M3 (by omega) (by omega) (by omega) jM3 lvM3 (by omega) (by omega) (by omega) tsM3 (fun z => absurd rfl z) (fun _ => SY.n (by omega) (by omega) (RS.n (RSb.up (l := 5) (gM3.2 (by omega))))) (fun z => absurd rfl z) rfl
  · refine g_aload_n (pc' := 11) 1 dX2_readSum_10 rfl rfl ?_
    refine g_callVi (pc' := 14) (As := []) (b := 30) (S := []) dX2_readSum_11 rfl m_X2_153 w_X2_takeSumSign (c_X2_takeSumSign_y X M3 iM3 K W m jM3 tsM3 (by omega) (by omega) lvM3 (by omega) (by omega)) rfl ⟨_, _, _, rfl, rfl, rfl⟩ (by omega) (by decide) rfl (Nat.le_of_ble_eq_true rfl) (fun z6 M7 q5 => ?_)
    obtain ⟨iM7, fM70, eM7_31_1, eM7_37_1, pM7⟩ := q5
    have fM7 : Fr (fun c => c = 30 ∨ c = 31 ∨ c = 37 ∨ c = 39 ∨ c = 40) M M7 := Fr.tr fM3 fM70 fi_67
    have q31_1_M7 : id (M7 31 1 = M 31 1) := eM7_31_1.trans q31_1_M3
    have q37_1_M7 : id (M7 37 1 = M 37 1) := eM7_37_1.trans q37_1_M3
    have wM7_30_2 : M7 30 2 = M3 30 2 := (congrFun (fM70 30 (by first | decide | omega | (dsimp only; omega))) 2)
    have wM7_37_4 : M7 37 4 = M3 37 4 := (congrFun (fM70 37 (by first | decide | omega | (dsimp only; omega))) 4)
    clear eM7_31_1 eM7_37_1
    have tsM7 : TS M7 K W m := TS.fr tsM3 fM70 (fun c h1 h2 => by first | omega | (dsimp only; omega))
    have k39M7 : M7 39 = M3 39 := (fM70 39 (by decide))
    have k40M7 : M7 40 = M3 40 := (fM70 40 (by decide))
    refine g_goto (tgt := 18) dX2_readSum_14 rfl ?_
    rcases (show z6 = 6 ∨ z6 = 7 ∨ z6 = 0 by omega) with rfl | rfl | rfl
    · have ys := (gM3.1 (by omega)).2.1
      have yq := ylM3
      refine g_istore_n (pc' := 19) (i := 3) (L' := [(3, vi 6), (2, vi z2), (0, vr X 30), (1, vi b)]) dX2_readSum_18 rfl rfl (by decide) rfl ?_
      refine g_iconst (pc' := 20) dX2_readSum_19 rfl ?_
      refine g_istore (pc' := 22) (L' := [(4, vi 0), (3, vi 6), (2, vi z2), (0, vr X 30), (1, vi b)]) dX2_readSum_20 rfl (by decide) rfl ?_
      refine g_sub [2, 1, 0, 3, 4] rfl ?_
      exact l_X2_readSum_y_22 X M hi b hb K W m i hts hat him lv hlv hsl hb8 hsub _ z2 6 0 M7 iM7 fM7 q31_1_M7 q37_1_M7 (by omega) (by omega) (by omega) (jM3 + 1) lvM3 (by omega) (by omega) (by omega) tsM7 (by omega) (fun z => absurd z (by decide)) (fun _ => ⟨((yM3.2.2 (by omega)).2.1.tr (CDS.eq (by omega) k39M7 k40M7)), 20, ⟨rfl, by decide, by decide, by decide⟩, ((RSmQ.up (l := 5) ((yM3.2.2 (by omega)).2.2.2.mp (fun f q => by rw [k39M7, k40M7, show M7 37 4 = M3 37 4 by omega]; exact q)))).op (su_43 (by omega))⟩) rfl
    · have ys := (gM3.1 (by omega)).2.1
      have yq := ylM3
      refine g_istore_n (pc' := 19) (i := 3) (L' := [(3, vi 7), (2, vi z2), (0, vr X 30), (1, vi b)]) dX2_readSum_18 rfl rfl (by decide) rfl ?_
      refine g_iconst (pc' := 20) dX2_readSum_19 rfl ?_
      refine g_istore (pc' := 22) (L' := [(4, vi 0), (3, vi 7), (2, vi z2), (0, vr X 30), (1, vi b)]) dX2_readSum_20 rfl (by decide) rfl ?_
      refine g_sub [2, 1, 0, 3, 4] rfl ?_
      exact l_X2_readSum_y_22 X M hi b hb K W m i hts hat him lv hlv hsl hb8 hsub _ z2 7 0 M7 iM7 fM7 q31_1_M7 q37_1_M7 (by omega) (by omega) (by omega) (jM3 + 1) lvM3 (by omega) (by omega) (by omega) tsM7 (by omega) (fun z => absurd z (by decide)) (fun _ => ⟨((yM3.2.2 (by omega)).2.1.tr (CDS.eq (by omega) k39M7 k40M7)), 21, ⟨rfl, by decide, by decide, by decide⟩, ((RSmQ.up (l := 5) ((yM3.2.2 (by omega)).2.2.2.mp (fun f q => by rw [k39M7, k40M7, show M7 37 4 = M3 37 4 by omega]; exact q)))).op (su_45 (by omega))⟩) rfl
    · have yq := ylM3
      refine g_istore_n (pc' := 19) (i := 3) (L' := [(3, vi 0), (2, vi z2), (0, vr X 30), (1, vi b)]) dX2_readSum_18 rfl rfl (by decide) rfl ?_
      refine g_iconst (pc' := 20) dX2_readSum_19 rfl ?_
      refine g_istore (pc' := 22) (L' := [(4, vi 0), (3, vi 0), (2, vi z2), (0, vr X 30), (1, vi b)]) dX2_readSum_20 rfl (by decide) rfl ?_
      refine g_sub [2, 1, 0, 3, 4] rfl ?_
      exact l_X2_readSum_y_22 X M hi b hb K W m i hts hat him lv hlv hsl hb8 hsub _ z2 0 0 M7 iM7 fM7 q31_1_M7 q37_1_M7 (by omega) (by omega) (by omega) jM3 lvM3 (by omega) (by omega) (by omega) tsM7 (fun z => absurd rfl z) (fun _ => ⟨fun z => by omega, by omega, fun _ => ⟨⟨fun _ => (gM3.1 (by omega)).1.1 (by decide), fun _ => ⟨by omega, by omega⟩⟩, ((yM3.2.2 (by omega)).2.1.tr (CDS.eq (by omega) k39M7 k40M7)), by omega, (RSmQ.up (l := 5) ((yM3.2.2 (by omega)).2.2.2.mp (fun f q => by rw [k39M7, k40M7, show M7 37 4 = M3 37 4 by omega]; exact q)))⟩⟩) (fun z => absurd rfl z) rfl
theorem r_readSum_y (X : Cx) (K W : Nat → Int) (m : Nat) : ∀ (k : Nat) (b : Int), 0 ≤ b → b ≤ 8 → (8 - b).toNat = k → ∀ (M : Mm) (_ : IC M) (i : Nat) (lv : Int), TS M K W m → M 31 7 = (i : Int) → i ≤ m → M 30 2 = lv → (0 ≤ M 37 4 ∧ M 37 4 ≤ (i : Int)) → Con X (12 + 3 * (8 - b).toNat) yX2_readSum cX2_readSum 5 (some .boolean) [vr X 30, vi b] M (Qi (fun r M1 => IC M1 ∧ Fr (fun c => c = 30 ∨ c = 31 ∨ c = 37 ∨ c = 39 ∨ c = 40) M M1 ∧ M1 31 1 = M 31 1 ∧ M1 37 1 = M 37 1 ∧ ((r = 0 ∨ r = 1) ∧ ∃ (j : Nat) (lv1 : Int), M1 31 7 = (j : Int) ∧ M1 30 2 = lv1 ∧ i ≤ j ∧ j ≤ m ∧ SY K W 5 b M M1 i lv r j lv1))) := by
  intro k
  induction k using Nat.strongRecOn with
  | ind k ih =>
    intro b h0 h8 hk M hi i lv hts hat him hlv hsl
    have hb : inI b := ⟨by omega, by omega⟩
    exact c_X2_readSum_y X M hi b hb K W m i hts hat him lv hlv hsl ⟨h0, h8⟩ (fun M hi i lv hts hat him hlv hsl => c_X2_readTerm_y X M hi b hb K W m i hts hat him lv hlv hsl ⟨h0, h8⟩ (fun M hi i lv hts hat him hlv hsl => c_X2_readPart_y X M hi b hb K W m i hts hat him lv hlv hsl ⟨h0, h8⟩ (fun M hi i lv hts hat him hlv hsl hlt => ih _ (by omega) (b + 1) (by omega) (by omega) rfl M hi i lv hts hat him hlv hsl)))
