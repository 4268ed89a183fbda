set_option maxHeartbeats 4000000 in
set_option maxRecDepth 100000 in
theorem c_X8_isSign_x (X : Cx) (M : Mm) (hi : IC M) (a : Int) (ha : inI a) (K W : Nat → Int) (m i : Nat) (hts : TS M K W m) (hat : M 31 7 = (i : Int)) (him : i ≤ m) : Con X 0 yX8_isSign cX8_isSign 2 (some .boolean) [vr X 31, vi a] M (Qi (fun r M1 => M1 = M ∧ ((r = 1 ∧ isSg K W i a) ∨ (r = 0 ∧ ¬ isSg K W i a)))) := by
  refine Con.ofG rfl (Nat.le_of_ble_eq_true rfl) ?_
  show G X 0 RX8 cX8_isSign 2 (some .boolean) (Qi (fun r M1 => M1 = M ∧ ((r = 1 ∧ isSg K W i a) ∨ (r = 0 ∧ ¬ isSg K W i a)))) 0 [(0, vr X 31), (1, vi a)] [] M
  have hlt := fun z => hts.lt him z
  refine g_aload_n (pc' := 1) 0 dX8_isSign_0 rfl rfl ?_
  refine g_getR (pc' := 4) dX8_isSign_1 rfl f_X8_15 rfl rfl ?_
  refine g_aload_n (pc' := 5) 0 dX8_isSign_4 rfl rfl ?_
  refine g_getI (pc' := 8) dX8_isSign_5 rfl f_X8_34 rfl rfl (fun v1 ev1 rv1 => ?_)
  have bv1 : 0 ≤ v1 ∧ v1 ≤ 400 := by rw [ev1]; exact hi.2.2.1.2.1
  refine g_iald (pc' := 9) dX8_isSign_8 rfl rfl (by omega) (by omega) (fun v2 ev2 rv2 => ?_)
  have zv2 : v2 ≠ 0 → M 34 v1.toNat ≤ 399 := by rw [ev2]; exact (hi.2.2.1.2.2.2 _ (by omega)).2.2.2.2
  have uv2 : v2 ≠ 0 → v1 ≠ 400 := by intro h1 h2; apply h1; rw [ev2, h2]; exact hi.2.2.1.2.2.1
  have kv2 : v2 = K i := by rw [ev2, show (v1).toNat = i by omega]; exact hts.K_ i
  refine g_iconst (pc' := 10) dX8_isSign_9 rfl ?_
  refine g_ic_ne (pc' := 13) (tgt := 35) rv2 (by decide) dX8_isSign_10 rfl rfl (fun c3 => ?_) (fun c3 => ?_)
  · refine g_iconst (pc' := 36) dX8_isSign_35 rfl ?_
    refine g_zreturn dX8_isSign_36 (by omega) ?_
    exact ⟨rfl, by omega⟩
  · refine g_aload_n (pc' := 14) 0 dX8_isSign_13 rfl rfl ?_
    refine g_getR (pc' := 17) dX8_isSign_14 rfl f_X8_9 rfl rfl ?_
    refine g_aload_n (pc' := 18) 0 dX8_isSign_17 rfl rfl ?_
    refine g_getR (pc' := 21) dX8_isSign_18 rfl f_X8_18 rfl rfl ?_
    refine g_aload_n (pc' := 22) 0 dX8_isSign_21 rfl rfl ?_
    refine g_getI (pc' := 25) dX8_isSign_22 rfl f_X8_34 rfl rfl (fun v4 ev4 rv4 => ?_)
    obtain rfl : v1 = v4 := ev1.trans ev4.symm
    refine g_iald (pc' := 26) dX8_isSign_25 rfl rfl (by omega) (by omega) (fun v5 ev5 rv5 => ?_)
    have bv5 : 0 ≤ v5 ∧ v5 ≤ 400 := by rw [ev5]; exact ⟨(hi.2.2.1.2.2.2 _ (by omega)).1, (hi.2.2.1.2.2.2 _ (by omega)).2.1⟩
    have sv5 : v2 ≠ 0 → v5 ≤ 399 := by rw [ev5]; exact zv2
    have gv5 : v5 = M 34 i := by rw [ev5, show (v1).toNat = i by omega]
    refine g_iald (pc' := 27) dX8_isSign_26 rfl rfl (by omega) (by omega) (fun v6 ev6 rv6 => ?_)
    have sv6 : K i = 3 → W i = v6 := fun z => by rw [hts.sgn z, ev6, gv5]
    refine g_iload_n (pc' := 28) 1 dX8_isSign_27 rfl rfl ?_
    refine g_ic_ne (pc' := 31) (tgt := 35) rv6 ha dX8_isSign_28 rfl rfl (fun c7 => ?_) (fun c7 => ?_)
    · refine g_iconst (pc' := 36) dX8_isSign_35 rfl ?_
      refine g_zreturn dX8_isSign_36 (by omega) ?_
      exact ⟨rfl, by omega⟩
    · refine g_iconst (pc' := 32) dX8_isSign_31 rfl ?_
      refine g_goto (tgt := 36) dX8_isSign_32 rfl ?_
      refine g_zreturn dX8_isSign_36 (by omega) ?_
      exact ⟨rfl, by omega⟩
set_option maxHeartbeats 4000000 in
set_option maxRecDepth 100000 in
theorem c_X8_takeSign_x (X : Cx) (M : Mm) (hi : IC M) (a : Int) (ha : inI a) (K W : Nat → Int) (m i : Nat) (hts : TS M K W m) (hat : M 31 7 = (i : Int)) (him : i ≤ m) : Con X 0 yX8_takeSign cX8_takeSign 2 (some .boolean) [vr X 31, vi a] M (Qi (fun r M1 => IC M1 ∧ Fr (fun c => c = 31) M M1 ∧ M1 31 1 = M 31 1 ∧ ((r = 1 ∧ isSg K W i a ∧ M1 31 7 = ((i + 1 : Nat) : Int) ∧ i < m) ∨ (r = 0 ∧ ¬ isSg K W i a ∧ M1 31 7 = (i : Int))))) := by
  refine Con.ofG rfl (Nat.le_of_ble_eq_true rfl) ?_
  show G X 0 RX8 cX8_takeSign 2 (some .boolean) (Qi (fun r M1 => IC M1 ∧ Fr (fun c => c = 31) M M1 ∧ M1 31 1 = M 31 1 ∧ ((r = 1 ∧ isSg K W i a ∧ M1 31 7 = ((i + 1 : Nat) : Int) ∧ i < m) ∨ (r = 0 ∧ ¬ isSg K W i a ∧ M1 31 7 = (i : Int))))) 0 [(0, vr X 31), (1, vi a)] [] M
  have hlt := fun z => hts.lt him z
  refine g_aload_n (pc' := 1) 0 dX8_takeSign_0 rfl rfl ?_
  refine g_getR (pc' := 4) dX8_takeSign_1 rfl f_X8_15 rfl rfl ?_
  refine g_aload_n (pc' := 5) 0 dX8_takeSign_4 rfl rfl ?_
  refine g_getI (pc' := 8) dX8_takeSign_5 rfl f_X8_34 rfl rfl (fun v1 ev1 rv1 => ?_)
  have bv1 : 0 ≤ v1 ∧ v1 ≤ 400 := by rw [ev1]; exact hi.2.2.1.2.1
  refine g_iald (pc' := 9) dX8_takeSign_8 rfl rfl (by omega) (by omega) (fun v2 ev2 rv2 => ?_)
  have zv2 : v2 ≠ 0 → M 34 v1.toNat ≤ 399 := by rw [ev2]; exact (hi.2.2.1.2.2.2 _ (by omega)).2.2.2.2
  have uv2 : v2 ≠ 0 → v1 ≠ 400 := by intro h1 h2; apply h1; rw [ev2, h2]; exact hi.2.2.1.2.2.1
  have kv2 : v2 = K i := by rw [ev2, show (v1).toNat = i by omega]; exact hts.K_ i
  refine g_iconst (pc' := 10) dX8_takeSign_9 rfl ?_
  refine g_ic_ne (pc' := 13) (tgt := 31) rv2 (by decide) dX8_takeSign_10 rfl rfl (fun c3 => ?_) (fun c3 => ?_)
  · refine g_iconst (pc' := 32) dX8_takeSign_31 rfl ?_
    refine g_zreturn dX8_takeSign_32 (by omega) ?_
    exact ⟨hi, Fr.rf, rfl, by omega⟩
  · refine g_aload_n (pc' := 14) 0 dX8_takeSign_13 rfl rfl ?_
    refine g_getR (pc' := 17) dX8_takeSign_14 rfl f_X8_9 rfl rfl ?_
    refine g_aload_n (pc' := 18) 0 dX8_takeSign_17 rfl rfl ?_
    refine g_getR (pc' := 21) dX8_takeSign_18 rfl f_X8_18 rfl rfl ?_
    refine g_aload_n (pc' := 22) 0 dX8_takeSign_21 rfl rfl ?_
    refine g_getI (pc' := 25) dX8_takeSign_22 rfl f_X8_34 rfl rfl (fun v4 ev4 rv4 => ?_)
    obtain rfl : v1 = v4 := ev1.trans ev4.symm
    refine g_iald (pc' := 26) dX8_takeSign_25 rfl rfl (by omega) (by omega) (fun v5 ev5 rv5 => ?_)
    have bv5 : 0 ≤ v5 ∧ v5 ≤ 400 := by rw [ev5]; exact ⟨(hi.2.2.1.2.2.2 _ (by omega)).1, (hi.2.2.1.2.2.2 _ (by omega)).2.1⟩
    have sv5 : v2 ≠ 0 → v5 ≤ 399 := by rw [ev5]; exact zv2
    have gv5 : v5 = M 34 i := by rw [ev5, show (v1).toNat = i by omega]
    refine g_iald (pc' := 27) dX8_takeSign_26 rfl rfl (by omega) (by omega) (fun v6 ev6 rv6 => ?_)
    have sv6 : K i = 3 → W i = v6 := fun z => by rw [hts.sgn z, ev6, gv5]
    refine g_iload_n (pc' := 28) 1 dX8_takeSign_27 rfl rfl ?_
    refine g_ic_eq (pc' := 31) (tgt := 33) rv6 ha dX8_takeSign_28 rfl rfl (fun c7 => ?_) (fun c7 => ?_)
    · refine g_aload_n (pc' := 34) 0 dX8_takeSign_33 rfl rfl ?_
      refine g_dup (pc' := 35) dX8_takeSign_34 rfl rfl ?_
      refine g_getI (pc' := 38) dX8_takeSign_35 rfl f_X8_34 rfl rfl (fun v8 ev8 rv8 => ?_)
      obtain rfl : v1 = v8 := ev1.trans ev8.symm
      refine g_iconst (pc' := 39) dX8_takeSign_38 rfl ?_
      refine g_iadd (pc' := 40) dX8_takeSign_39 rfl ?_
      refine g_putI (pc' := 43) dX8_takeSign_40 rfl p_X8_34 rfl rfl ⟨by omega, by omega⟩ (fun M9 hM9 => ?_)
      have iM9 : IC M9 := IC.wr hi hM9 (by unfold okw isT; first | decide | omega)
      have fM9 : Fr (fun c => c = 31) M M9 := Fr.wr Fr.rf hM9 (by first | decide | omega | (dsimp only; omega))
      have q31_1_M9 : id (M9 31 1 = M 31 1) := (show M9 31 1 = M 31 1 by rw [hM9]; exact mu_ne _ _ (by first | decide | omega))
      have xM9_31_7 : M9 31 7 = v1 + 1 := by rw [hM9]; exact mu_at _ _ _ _
      refine g_iconst (pc' := 44) dX8_takeSign_43 rfl ?_
      refine g_zreturn dX8_takeSign_44 (by omega) ?_
      exact ⟨iM9, fM9, q31_1_M9, by omega⟩
    · refine g_iconst (pc' := 32) dX8_takeSign_31 rfl ?_
      refine g_zreturn dX8_takeSign_32 (by omega) ?_
      exact ⟨hi, Fr.rf, rfl, by omega⟩
set_option maxHeartbeats 4000000 in
set_option maxRecDepth 100000 in
theorem c_X8_takeNumber_x (X : Cx) (M : Mm) (hi : IC M) (a : Int) (ha : inI a) (b : Int) (hb : inI b) (K W : Nat → Int) (m i : Nat) (hts : TS M K W m) (hat : M 31 7 = (i : Int)) (him : i ≤ m) (hab : 0 ≤ a ∧ b ≤ 1000) : Con X 0 yX8_takeNumber cX8_takeNumber 3 (some .int) [vr X 31, vi a, vi b] M (Qi (fun r M1 => IC M1 ∧ Fr (fun c => c = 31) M M1 ∧ M1 31 1 = M 31 1 ∧ ((r = W i ∧ (K i = 2 ∧ a ≤ W i ∧ W i ≤ b) ∧ M1 31 7 = ((i + 1 : Nat) : Int) ∧ i < m) ∨ (r = -1 ∧ ¬ (K i = 2 ∧ a ≤ W i ∧ W i ≤ b) ∧ M1 31 7 = (i : Int))))) := by
  refine Con.ofG rfl (Nat.le_of_ble_eq_true rfl) ?_
  show G X 0 RX8 cX8_takeNumber 3 (some .int) (Qi (fun r M1 => IC M1 ∧ Fr (fun c => c = 31) M M1 ∧ M1 31 1 = M 31 1 ∧ ((r = W i ∧ (K i = 2 ∧ a ≤ W i ∧ W i ≤ b) ∧ M1 31 7 = ((i + 1 : Nat) : Int) ∧ i < m) ∨ (r = -1 ∧ ¬ (K i = 2 ∧ a ≤ W i ∧ W i ≤ b) ∧ M1 31 7 = (i : Int))))) 0 [(0, vr X 31), (1, vi a), (2, vi b)] [] M
  have hlt := fun z => hts.lt him z
  have hcn : K i = 2 → ((W i ≤ 1000 → M 36 i = W i) ∧ (1000 < W i → M 36 i = 1001)) ∧ 0 ≤ W i := fun z => hts.num him z
  refine g_aload_n (pc' := 1) 0 dX8_takeNumber_0 rfl rfl ?_
  refine g_getR (pc' := 4) dX8_takeNumber_1 rfl f_X8_15 rfl rfl ?_
  refine g_aload_n (pc' := 5) 0 dX8_takeNumber_4 rfl rfl ?_
  refine g_getI (pc' := 8) dX8_takeNumber_5 rfl f_X8_34 rfl rfl (fun v1 ev1 rv1 => ?_)
  have bv1 : 0 ≤ v1 ∧ v1 ≤ 400 := by rw [ev1]; exact hi.2.2.1.2.1
  refine g_iald (pc' := 9) dX8_takeNumber_8 rfl rfl (by omega) (by omega) (fun v2 ev2 rv2 => ?_)
  have zv2 : v2 ≠ 0 → M 34 v1.toNat ≤ 399 := by rw [ev2]; exact (hi.2.2.1.2.2.2 _ (by omega)).2.2.2.2
  have uv2 : v2 ≠ 0 → v1 ≠ 400 := by intro h1 h2; apply h1; rw [ev2, h2]; exact hi.2.2.1.2.2.1
  have kv2 : v2 = K i := by rw [ev2, show (v1).toNat = i by omega]; exact hts.K_ i
  refine g_iconst (pc' := 10) dX8_takeNumber_9 rfl ?_
  refine g_ic_ne (pc' := 13) (tgt := 39) rv2 (by decide) dX8_takeNumber_10 rfl rfl (fun c3 => ?_) (fun c3 => ?_)
  · refine g_iconst (pc' := 40) dX8_takeNumber_39 rfl ?_
    refine g_ireturn dX8_takeNumber_40 ?_
    exact ⟨hi, Fr.rf, rfl, by omega⟩
  · refine g_aload_n (pc' := 14) 0 dX8_takeNumber_13 rfl rfl ?_
    refine g_getR (pc' := 17) dX8_takeNumber_14 rfl f_X8_24 rfl rfl ?_
    refine g_aload_n (pc' := 18) 0 dX8_takeNumber_17 rfl rfl ?_
    refine g_getI (pc' := 21) dX8_takeNumber_18 rfl f_X8_34 rfl rfl (fun v4 ev4 rv4 => ?_)
    obtain rfl : v1 = v4 := ev1.trans ev4.symm
    refine g_iald (pc' := 22) dX8_takeNumber_21 rfl rfl (by omega) (by omega) (fun v5 ev5 rv5 => ?_)
    have gv5 : v5 = M 36 i := by rw [ev5, show (v1).toNat = i by omega]
    refine g_iload_n (pc' := 23) 1 dX8_takeNumber_22 rfl rfl ?_
    refine g_ic_lt (pc' := 26) (tgt := 39) rv5 ha dX8_takeNumber_23 rfl rfl (fun c6 => ?_) (fun c6 => ?_)
    · refine g_iconst (pc' := 40) dX8_takeNumber_39 rfl ?_
      refine g_ireturn dX8_takeNumber_40 ?_
      exact ⟨hi, Fr.rf, rfl, by omega⟩
    · refine g_aload_n (pc' := 27) 0 dX8_takeNumber_26 rfl rfl ?_
      refine g_getR (pc' := 30) dX8_takeNumber_27 rfl f_X8_24 rfl rfl ?_
      refine g_aload_n (pc' := 31) 0 dX8_takeNumber_30 rfl rfl ?_
      refine g_getI (pc' := 34) dX8_takeNumber_31 rfl f_X8_34 rfl rfl (fun v7 ev7 rv7 => ?_)
      obtain rfl : v1 = v7 := ev1.trans ev7.symm
      refine g_iald (pc' := 35) dX8_takeNumber_34 rfl rfl (by omega) (by omega) (fun v8 ev8 rv8 => ?_)
      obtain rfl : v5 = v8 := ev5.trans ev8.symm
      refine g_iload_n (pc' := 36) 2 dX8_takeNumber_35 rfl rfl ?_
      refine g_ic_le (pc' := 39) (tgt := 41) rv5 hb dX8_takeNumber_36 rfl rfl (fun c9 => ?_) (fun c9 => ?_)
      · refine g_aload_n (pc' := 42) 0 dX8_takeNumber_41 rfl rfl ?_
        refine g_dup (pc' := 43) dX8_takeNumber_42 rfl rfl ?_
        refine g_getI (pc' := 46) dX8_takeNumber_43 rfl f_X8_34 rfl rfl (fun v10 ev10 rv10 => ?_)
        obtain rfl : v1 = v10 := ev1.trans ev10.symm
        refine g_iconst (pc' := 47) dX8_takeNumber_46 rfl ?_
        refine g_iadd (pc' := 48) dX8_takeNumber_47 rfl ?_
        refine g_putI (pc' := 51) dX8_takeNumber_48 rfl p_X8_34 rfl rfl ⟨by omega, by omega⟩ (fun M11 hM11 => ?_)
        have iM11 : IC M11 := IC.wr hi hM11 (by unfold okw isT; first | decide | omega)
        have fM11 : Fr (fun c => c = 31) M M11 := Fr.wr Fr.rf hM11 (by first | decide | omega | (dsimp only; omega))
        have q31_1_M11 : id (M11 31 1 = M 31 1) := (show M11 31 1 = M 31 1 by rw [hM11]; exact mu_ne _ _ (by first | decide | omega))
        have xM11_31_7 : M11 31 7 = v1 + 1 := by rw [hM11]; exact mu_at _ _ _ _
        refine g_aload_n (pc' := 52) 0 dX8_takeNumber_51 rfl rfl ?_
        refine g_getR (pc' := 55) dX8_takeNumber_52 rfl f_X8_24 rfl rfl ?_
        refine g_aload_n (pc' := 56) 0 dX8_takeNumber_55 rfl rfl ?_
        refine g_getI (pc' := 59) dX8_takeNumber_56 rfl f_X8_34 rfl rfl (fun v12 ev12 rv12 => ?_)
        have bv12 : 0 ≤ v12 ∧ v12 ≤ 400 := by rw [ev12]; exact iM11.2.2.1.2.1
        have yv12 : v12 = v1 + 1 := ev12.trans xM11_31_7
        refine g_iconst (pc' := 60) dX8_takeNumber_59 rfl ?_
        refine g_isub (pc' := 61) dX8_takeNumber_60 rfl ?_
        refine g_iald (pc' := 62) dX8_takeNumber_61 rfl rfl (by omega) (by omega) (fun v13 ev13 rv13 => ?_)
        have gv13 : v13 = M 36 i := by rw [ev13, fM11 36 (by decide), show ((v12 - 1)).toNat = i by omega]
        refine g_ireturn dX8_takeNumber_62 ?_
        exact ⟨iM11, fM11, q31_1_M11, by omega⟩
      · refine g_iconst (pc' := 40) dX8_takeNumber_39 rfl ?_
        refine g_ireturn dX8_takeNumber_40 ?_
        exact ⟨hi, Fr.rf, rfl, by omega⟩
set_option maxHeartbeats 4000000 in
set_option maxRecDepth 100000 in
theorem c_X8_isEnd_x (X : Cx) (M : Mm) (hi : IC M) (K W : Nat → Int) (m i : Nat) (hts : TS M K W m) (hat : M 31 7 = (i : Int)) (him : i ≤ m) : Con X 0 yX8_isEnd cX8_isEnd 1 (some .boolean) [vr X 31] M (Qi (fun r M1 => M1 = M ∧ ((r = 1 ∧ K i = 0) ∨ (r = 0 ∧ K i ≠ 0)))) := by
  refine Con.ofG rfl (Nat.le_of_ble_eq_true rfl) ?_
  show G X 0 RX8 cX8_isEnd 1 (some .boolean) (Qi (fun r M1 => M1 = M ∧ ((r = 1 ∧ K i = 0) ∨ (r = 0 ∧ K i ≠ 0)))) 0 [(0, vr X 31)] [] M
  refine g_aload_n (pc' := 1) 0 dX8_isEnd_0 rfl rfl ?_
  refine g_getR (pc' := 4) dX8_isEnd_1 rfl f_X8_15 rfl rfl ?_
  refine g_aload_n (pc' := 5) 0 dX8_isEnd_4 rfl rfl ?_
  refine g_getI (pc' := 8) dX8_isEnd_5 rfl f_X8_34 rfl rfl (fun v1 ev1 rv1 => ?_)
  have bv1 : 0 ≤ v1 ∧ v1 ≤ 400 := by rw [ev1]; exact hi.2.2.1.2.1
  refine g_iald (pc' := 9) dX8_isEnd_8 rfl rfl (by omega) (by omega) (fun v2 ev2 rv2 => ?_)
  have zv2 : v2 ≠ 0 → M 34 v1.toNat ≤ 399 := by rw [ev2]; exact (hi.2.2.1.2.2.2 _ (by omega)).2.2.2.2
  have uv2 : v2 ≠ 0 → v1 ≠ 400 := by intro h1 h2; apply h1; rw [ev2, h2]; exact hi.2.2.1.2.2.1
  have kv2 : v2 = K i := by rw [ev2, show (v1).toNat = i by omega]; exact hts.K_ i
  refine g_if_ne (pc' := 12) (tgt := 16) rv2 dX8_isEnd_9 rfl rfl (fun c3 => ?_) (fun c3 => ?_)
  · refine g_iconst (pc' := 17) dX8_isEnd_16 rfl ?_
    refine g_zreturn dX8_isEnd_17 (by omega) ?_
    exact ⟨rfl, by omega⟩
  · refine g_iconst (pc' := 13) dX8_isEnd_12 rfl ?_
    refine g_goto (tgt := 17) dX8_isEnd_13 rfl ?_
    refine g_zreturn dX8_isEnd_17 (by omega) ?_
    exact ⟨rfl, by omega⟩
set_option maxHeartbeats 4000000 in
set_option maxRecDepth 100000 in
theorem c_X8_place_x (X : Cx) (M : Mm) (hi : IC M) (K W : Nat → Int) (m i : Nat) (hts : TS M K W m) (hat : M 31 7 = (i : Int)) (him : i ≤ m) : Con X 0 yX8_place cX8_place 1 (some .int) [vr X 31] M (Qi (fun r M1 => M1 = M ∧ (r = M 34 i))) := by
  refine Con.ofG rfl (Nat.le_of_ble_eq_true rfl) ?_
  show G X 0 RX8 cX8_place 1 (some .int) (Qi (fun r M1 => M1 = M ∧ (r = M 34 i))) 0 [(0, vr X 31)] [] M
  refine g_aload_n (pc' := 1) 0 dX8_place_0 rfl rfl ?_
  refine g_getR (pc' := 4) dX8_place_1 rfl f_X8_18 rfl rfl ?_
  refine g_aload_n (pc' := 5) 0 dX8_place_4 rfl rfl ?_
  refine g_getI (pc' := 8) dX8_place_5 rfl f_X8_34 rfl rfl (fun v1 ev1 rv1 => ?_)
  have bv1 : 0 ≤ v1 ∧ v1 ≤ 400 := by rw [ev1]; exact hi.2.2.1.2.1
  refine g_iald (pc' := 9) dX8_place_8 rfl rfl (by omega) (by omega) (fun v2 ev2 rv2 => ?_)
  have bv2 : 0 ≤ v2 ∧ v2 ≤ 400 := by rw [ev2]; exact ⟨(hi.2.2.1.2.2.2 _ (by omega)).1, (hi.2.2.1.2.2.2 _ (by omega)).2.1⟩
  have gv2 : v2 = M 34 i := by rw [ev2, show (v1).toNat = i by omega]
  refine g_ireturn dX8_place_9 ?_
  exact ⟨rfl, gv2⟩
set_option maxHeartbeats 4000000 in
set_option maxRecDepth 100000 in
theorem l_X8_takeWord_x_45 (X : Cx) (M : Mm) (hi : IC M) (j : Nat) (hj : j < 14) (K W : Nat → Int) (m i : Nat) (hts : TS M K W m) (hat : M 31 7 = (i : Int)) (him : i ≤ m) : ∀ (kk : Nat) (b : Int) (k : Int) (M1 : Mm) (ic1 : IC M1) (fr1 : Fr (fun c => c = 31) M M1) (q31_1 : id (M1 31 1 = M 31 1)) (b0 : 0 ≤ b ∧ b = M 34 i) (b1 : b + ((sLen.getD j 0 : Nat) : Int) ≤ 400) (k0 : 0 ≤ k) (k1 : k ≤ ((sLen.getD j 0 : Nat) : Int)) (at1 : M1 31 7 = (i : Int) ∧ i < m ∧ i ≤ 399) (hk : K i = 1) (hle : M 35 i - M 34 i = ((sLen.getD j 0 : Nat) : Int)) (mt : ∀ q : Nat, (q : Int) < k → M 32 ((M 34 i).toNat + q) = sch j (q : Nat)), (6 - k).toNat = kk → G X 6 RX8 cX8_takeWord 4 (some .boolean) (Qi (fun r M1 => IC M1 ∧ Fr (fun c => c = 31) M M1 ∧ M1 31 1 = M 31 1 ∧ ((r = 1 ∧ isWd K W i (cw j) ∧ M1 31 7 = ((i + 1 : Nat) : Int) ∧ i < m) ∨ (r = 0 ∧ ¬ isWd K W i (cw j) ∧ M1 31 7 = (i : Int))))) 45 [(2, vi b), (3, vi k), (0, vr X 31), (1, vs X j)] [] M1 := by
  intro kk
  induction kk using Nat.strongRecOn with
  | ind kk ih =>
    intro b k M1 ic1 fr1 q31_1 b0 b1 k0 k1 at1 hk hle mt hmes
    have hs5 := sl_b j hj
    have hlt := fun z => hts.lt him z
    refine g_iload_n (pc' := 46) 1 dX8_takeWord_45 rfl rfl ?_
    refine g_sload_n (pc' := 47) 3 dX8_takeWord_46 rfl rfl ?_
    refine g_callW (pc' := 50) (As := []) (S := [vi k]) hj rfl dX8_takeWord_47 rfl m_X8_58 w_J0_length_8abf5 (c_J0_length_8abf5 X M1 j hj) rfl (by decide) (by decide) rfl (Nat.le_of_ble_eq_true rfl) (fun z1 q2 => ?_)
    refine g_ic_ge (pc' := 53) (tgt := 77) ⟨by omega, by omega⟩ ⟨by omega, by omega⟩ dX8_takeWord_50 rfl rfl (fun c3 => ?_) (fun c3 => ?_)
    · refine g_aload_n (pc' := 78) 2 dX8_takeWord_77 rfl rfl ?_
      refine g_dup (pc' := 79) dX8_takeWord_78 rfl rfl ?_
      refine g_getI (pc' := 82) dX8_takeWord_79 rfl f_X8_34 rfl rfl (fun v4 ev4 rv4 => ?_)
      have bv4 : 0 ≤ v4 ∧ v4 ≤ 400 := by rw [ev4]; exact ic1.2.2.1.2.1
      refine g_iconst (pc' := 83) dX8_takeWord_82 rfl ?_
      refine g_iadd (pc' := 84) dX8_takeWord_83 rfl ?_
      refine g_putI (pc' := 87) dX8_takeWord_84 rfl p_X8_34 rfl rfl ⟨by omega, by omega⟩ (fun M5 hM5 => ?_)
      have iM5 : IC M5 := IC.wr ic1 hM5 (by unfold okw isT; first | decide | omega)
      have fM5 : Fr (fun c => c = 31) M M5 := Fr.wr fr1 hM5 (by first | decide | omega | (dsimp only; omega))
      have q31_1_M5 : id (M5 31 1 = M 31 1) := (show M5 31 1 = M1 31 1 by rw [hM5]; exact mu_ne _ _ (by first | decide | omega)).trans q31_1
      have xM5_31_7 : M5 31 7 = v4 + 1 := by rw [hM5]; exact mu_at _ _ _ _
      refine g_iconst (pc' := 88) dX8_takeWord_87 rfl ?_
      refine g_zreturn dX8_takeWord_88 (by omega) ?_
      exact ⟨iM5, fM5, q31_1_M5, Or.inl ⟨rfl, ⟨hk, (hts.wrd him hk (sl_l j hj) (by omega)).2 ⟨hle, fun q hq => mt q (by omega)⟩⟩, by omega, by omega⟩⟩
    · refine g_aload_n (pc' := 54) 2 dX8_takeWord_53 rfl rfl ?_
      refine g_getR (pc' := 57) dX8_takeWord_54 rfl f_X8_9 rfl rfl ?_
      refine g_iload_n (pc' := 58) 0 dX8_takeWord_57 rfl rfl ?_
      refine g_iload_n (pc' := 59) 1 dX8_takeWord_58 rfl rfl ?_
      refine g_iadd (pc' := 60) dX8_takeWord_59 rfl ?_
      refine g_iald (pc' := 61) dX8_takeWord_60 rfl rfl (by omega) (by omega) (fun v6 ev6 rv6 => ?_)
      have gv6 : v6 = M 32 (b + k).toNat := by rw [ev6, fr1 32 (by decide)]
      refine g_sload_n (pc' := 62) 3 dX8_takeWord_61 rfl rfl ?_
      refine g_iload_n (pc' := 63) 1 dX8_takeWord_62 rfl rfl ?_
      refine g_callW (pc' := 66) (As := [vi k]) (S := [vi v6]) hj rfl dX8_takeWord_63 rfl m_X8_63 w_J0_charAt_5068e (c_J0_charAt_5068e X M1 j hj k ⟨by omega, by omega⟩ (by omega) (by omega)) rfl (by decide) (by decide) rfl (Nat.le_of_ble_eq_true rfl) (fun z7 q8 => ?_)
      have bz7 : inI z7 := by rw [q8]; exact inI_toInt _
      refine g_ic_eq (pc' := 69) (tgt := 71) rv6 bz7 dX8_takeWord_66 rfl rfl (fun c9 => ?_) (fun c9 => ?_)
      · refine g_iinc (pc' := 74) (L' := [(3, vi (k + 1)), (2, vi b), (0, vr X 31), (1, vs X j)]) 1 dX8_takeWord_71 rfl rfl (by decide) rfl ?_
        refine g_goto (tgt := 45) dX8_takeWord_74 rfl ?_
        refine g_sub [1, 0, 2, 3] rfl ?_
        exact ih _ (by omega) b (k + 1) M1 ic1 fr1 q31_1 (by omega) (by omega) (by omega) (by omega) (by omega) (by omega) (by omega) (fun q hq => by
            by_cases z : (q : Int) = k
            · have y : q = k.toNat := by omega
              rw [y, show (M 34 i).toNat + k.toNat = ((b + k)).toNat by omega, ← gv6, show (k.toNat : Int) = k by omega, ← q8]; omega
            · exact mt q (by omega)) rfl
      · refine g_iconst (pc' := 70) dX8_takeWord_69 rfl ?_
        refine g_zreturn dX8_takeWord_70 (by omega) ?_
        exact ⟨ic1, fr1, q31_1, Or.inr ⟨rfl, fun z => by
            have y := ((hts.wrd him hk (sl_l j hj) (by omega)).1 z.2).2 k.toNat (by omega)
            rw [show (M 34 i).toNat + k.toNat = ((b + k)).toNat by omega, ← gv6, show (k.toNat : Int) = k by omega, ← q8] at y
            omega, by omega⟩⟩
set_option maxHeartbeats 4000000 in
set_option maxRecDepth 100000 in
theorem c_X8_takeWord_x (X : Cx) (M : Mm) (hi : IC M) (j : Nat) (hj : j < 14) (K W : Nat → Int) (m i : Nat) (hts : TS M K W m) (hat : M 31 7 = (i : Int)) (him : i ≤ m) : Con X 6 yX8_takeWord cX8_takeWord 4 (some .boolean) [vr X 31, vs X j] M (Qi (fun r M1 => IC M1 ∧ Fr (fun c => c = 31) M M1 ∧ M1 31 1 = M 31 1 ∧ ((r = 1 ∧ isWd K W i (cw j) ∧ M1 31 7 = ((i + 1 : Nat) : Int) ∧ i < m) ∨ (r = 0 ∧ ¬ isWd K W i (cw j) ∧ M1 31 7 = (i : Int))))) := by
  refine Con.ofG rfl (Nat.le_of_ble_eq_true rfl) ?_
  show G X 6 RX8 cX8_takeWord 4 (some .boolean) (Qi (fun r M1 => IC M1 ∧ Fr (fun c => c = 31) M M1 ∧ M1 31 1 = M 31 1 ∧ ((r = 1 ∧ isWd K W i (cw j) ∧ M1 31 7 = ((i + 1 : Nat) : Int) ∧ i < m) ∨ (r = 0 ∧ ¬ isWd K W i (cw j) ∧ M1 31 7 = (i : Int))))) 0 [(0, vr X 31), (1, vs X j)] [] M
  have hlt := fun z => hts.lt him z
  have hs5 := sl_b j hj
  refine g_aload_n (pc' := 1) 0 dX8_takeWord_0 rfl rfl ?_
  refine g_getR (pc' := 4) dX8_takeWord_1 rfl f_X8_18 rfl rfl ?_
  refine g_aload_n (pc' := 5) 0 dX8_takeWord_4 rfl rfl ?_
  refine g_getI (pc' := 8) dX8_takeWord_5 rfl f_X8_34 rfl rfl (fun v1 ev1 rv1 => ?_)
  have bv1 : 0 ≤ v1 ∧ v1 ≤ 400 := by rw [ev1]; exact hi.2.2.1.2.1
  refine g_iald (pc' := 9) dX8_takeWord_8 rfl rfl (by omega) (by omega) (fun v2 ev2 rv2 => ?_)
  have bv2 : 0 ≤ v2 ∧ v2 ≤ 400 := by rw [ev2]; exact ⟨(hi.2.2.1.2.2.2 _ (by omega)).1, (hi.2.2.1.2.2.2 _ (by omega)).2.1⟩
  have gv2 : v2 = M 34 i := by rw [ev2, show (v1).toNat = i by omega]
  refine g_istore_n (pc' := 10) (i := 2) (L' := [(2, vi v2), (0, vr X 31), (1, vs X j)]) dX8_takeWord_9 rfl rfl (by decide) rfl ?_
  refine g_aload_n (pc' := 11) 1 dX8_takeWord_10 rfl rfl ?_
  refine g_getR (pc' := 14) dX8_takeWord_11 rfl f_X8_15 rfl rfl ?_
  refine g_aload_n (pc' := 15) 1 dX8_takeWord_14 rfl rfl ?_
  refine g_getI (pc' := 18) dX8_takeWord_15 rfl f_X8_34 rfl rfl (fun v3 ev3 rv3 => ?_)
  obtain rfl : v1 = v3 := ev1.trans ev3.symm
  refine g_iald (pc' := 19) dX8_takeWord_18 rfl rfl (by omega) (by omega) (fun v4 ev4 rv4 => ?_)
  have zv4 : v4 ≠ 0 → M 34 v1.toNat ≤ 399 := by rw [ev4]; exact (hi.2.2.1.2.2.2 _ (by omega)).2.2.2.2
  have uv4 : v4 ≠ 0 → v1 ≠ 400 := by intro h1 h2; apply h1; rw [ev4, h2]; exact hi.2.2.1.2.2.1
  have kv4 : v4 = K i := by rw [ev4, show (v1).toNat = i by omega]; exact hts.K_ i
  refine g_iconst (pc' := 20) dX8_takeWord_19 rfl ?_
  refine g_ic_ne (pc' := 23) (tgt := 41) rv4 (by decide) dX8_takeWord_20 rfl rfl (fun c5 => ?_) (fun c5 => ?_)
  · refine g_iconst (pc' := 42) dX8_takeWord_41 rfl ?_
    refine g_zreturn dX8_takeWord_42 (by omega) ?_
    exact ⟨hi, Fr.rf, rfl, Or.inr ⟨rfl, fun z => by have := z.1; omega, by omega⟩⟩
  · refine g_aload_n (pc' := 24) 1 dX8_takeWord_23 rfl rfl ?_
    refine g_getR (pc' := 27) dX8_takeWord_24 rfl f_X8_21 rfl rfl ?_
    refine g_aload_n (pc' := 28) 1 dX8_takeWord_27 rfl rfl ?_
    refine g_getI (pc' := 31) dX8_takeWord_28 rfl f_X8_34 rfl rfl (fun v6 ev6 rv6 => ?_)
    obtain rfl : v1 = v6 := ev1.trans ev6.symm
    refine g_iald (pc' := 32) dX8_takeWord_31 rfl rfl (by omega) (by omega) (fun v7 ev7 rv7 => ?_)
    have bv7 : 0 ≤ v7 ∧ v7 ≤ 400 := by rw [ev7]; exact ⟨(hi.2.2.1.2.2.2 _ (by omega)).2.2.1, (hi.2.2.1.2.2.2 _ (by omega)).2.2.2.1⟩
    have gv7 : v7 = M 35 i := by rw [ev7, show (v1).toNat = i by omega]
    refine g_iload_n (pc' := 33) 0 dX8_takeWord_32 rfl rfl ?_
    refine g_isub (pc' := 34) dX8_takeWord_33 rfl ?_
    refine g_sload_n (pc' := 35) 2 dX8_takeWord_34 rfl rfl ?_
    refine g_callW (pc' := 38) (As := []) (S := [vi (v7 - v2)]) hj rfl dX8_takeWord_35 rfl m_X8_58 w_J0_length_8abf5 (c_J0_length_8abf5 X M j hj) rfl (by decide) (by decide) rfl (Nat.le_of_ble_eq_true rfl) (fun z8 q9 => ?_)
    refine g_ic_eq (pc' := 41) (tgt := 43) ⟨by omega, by omega⟩ ⟨by omega, by omega⟩ dX8_takeWord_38 rfl rfl (fun c10 => ?_) (fun c10 => ?_)
    · refine g_iconst (pc' := 44) dX8_takeWord_43 rfl ?_
      refine g_istore_n (pc' := 45) (i := 3) (L' := [(3, vi 0), (2, vi v2), (0, vr X 31), (1, vs X j)]) dX8_takeWord_44 rfl rfl (by decide) rfl ?_
      refine g_sub [1, 0, 2, 3] rfl ?_
      exact l_X8_takeWord_x_45 X M hi j hj K W m i hts hat him _ v2 0 M hi Fr.rf rfl (by omega) (by omega) (by omega) (by omega) (by omega) (by omega) (by omega) (fun k z => absurd z (by omega)) rfl
    · refine g_iconst (pc' := 42) dX8_takeWord_41 rfl ?_
      refine g_zreturn dX8_takeWord_42 (by omega) ?_
      exact ⟨hi, Fr.rf, rfl, Or.inr ⟨rfl, fun z => by
          have y := ((hts.wrd him z.1 (sl_l j hj) (by omega)).1 z.2).1
          omega, by omega⟩⟩
