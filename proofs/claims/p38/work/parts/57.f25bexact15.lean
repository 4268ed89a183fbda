set_option maxHeartbeats 4000000 in
set_option maxRecDepth 100000 in
theorem j_X7_settle_x_22 (X : Cx) (M : Mm) (t : Nat) (ht : isT t) (ho : okT M t) (x : Int) (hx : inL x) (a b : Nat) (n : Int) (P : Nat → Int) (L : Int) (F Z : Nat → Int) (tv : TV M t a b n P L F Z) (ct : CT n P L F Z) (px : 1 ≤ x ∧ x ≤ 6000000000000000) (pN : ∀ j : Nat, (j : Int) < 4 * n → 0 ≤ M b j) (u : Int) (hu : inL u) (u1 : 1 ≤ u) (ud : u ∣ x ∧ ∀ j : Nat, (j : Int) < 4 * n → u ∣ M b j) (ug : x ≤ 100000000000000 ∨ u = gF (M b) x (4 * n).toNat) : G X 2 RX7 cX7_settle 6 (some .boolean) (Qi (fun r M1 => okT M1 t ∧ Fr (inT t) M M1 ∧ M1 t 5 = M t 5 ∧ (STLQ M M1 t a b n P L F Z x r))) 22 [(3, vl u), (0, vr X t), (1, vl x)] [] M := by
  have tv0 := tv
  have tv1 := tv
  obtain ⟨⟨t2, t3⟩, hab, t5, tA, t4, tF, tZ⟩ := tv1
  have ctn := ct.1
  have ctL := ct.2.1
  have haa : a = t + 3 ∨ a = t + 4 := by omega
  have hbb : b = t + 3 ∨ b = t + 4 := by omega
  refine g_lload_n (pc' := 23) 0 dX7_settle_22 rfl rfl ?_
  refine g_lconst (pc' := 24) (v := 0) dX7_settle_23 rfl (by decide) ?_
  refine g_lc_le (pc' := 28) (tgt := 38) ⟨by omega, by omega⟩ (by decide) dX7_settle_24 dX7_settle_25 rfl rfl (fun c1 => ?_) (fun c1 => ?_)
  · refine g_iconst (pc' := 39) dX7_settle_38 rfl ?_
    refine g_zreturn dX7_settle_39 (by omega) ?_
    first | exact False.elim (by omega) | exact ⟨(TV.ok tv0 ctn), Fr.rf, t5.trans t5.symm, STLQ.no tv0 u1 ug px.1 ud.1 (by omega)⟩
  · refine g_lload_n (pc' := 29) 2 dX7_settle_28 rfl rfl ?_
    refine g_lload_n (pc' := 30) 0 dX7_settle_29 rfl rfl ?_
    refine g_ldiv (pc' := 31) hx ⟨by omega, by omega⟩ (by omega) dX7_settle_30 rfl ?_
    have td := tdv1 u1 (show 1 ≤ x by omega) ud.1
    refine g_ldc2 (pc' := 34) (v := 100000000000000) dX7_settle_31 rfl k_X7_78 ?_
    refine g_lc_le (pc' := 38) (tgt := 40) ⟨by omega, by omega⟩ (by decide) dX7_settle_34 dX7_settle_35 rfl rfl (fun c2 => ?_) (fun c2 => ?_)
    · refine g_aload_n (pc' := 41) 1 dX7_settle_40 rfl rfl ?_
      refine g_aload_n (pc' := 42) 1 dX7_settle_41 rfl rfl ?_
      refine g_getD (pc' := 45) dX7_settle_42 rfl f_X7_22 ht.o rfl ?_
      rw [t3, Int.toNat_natCast]
      refine g_lload_n (pc' := 46) 0 dX7_settle_45 rfl rfl ?_
      refine g_callVv (pc' := 49) (As := [vr X b, vl u]) (b := t) (S := []) dX7_settle_46 rfl m_X7_84 w_X7_divideBy (c_X7_divideBy_x X M t ht (TV.ok tv0 ctn) b hbb u ⟨by omega, by omega⟩ (by omega) (fun j hj => ⟨ud.2 j (by rw [t5] at hj; exact hj), pN j (by rw [t5] at hj; exact hj)⟩)) rfl ⟨_, _, _, ht.o, rfl, rfl⟩ (by decide) (by decide) rfl (Nat.le_of_ble_eq_true rfl) (fun M4 q3 => ?_)
      obtain ⟨kM4, fM40, gM40, pM4⟩ := q3
      have fM4 : Fr (inT t) M M4 := Fr.tr Fr.rf fM40 (fun _ z => z)
      obtain ⟨fxM4, dvM4⟩ := pM4
      have t2_M4 : M4 t 2 = (a : Int) := (congrFun (fxM4 t (show ¬ t = b by omega)) 2).trans t2
      have t3_M4 : M4 t 3 = (b : Int) := (congrFun (fxM4 t (show ¬ t = b by omega)) 3).trans t3
      have t5_M4 : M4 t 5 = n := (congrFun (fxM4 t (show ¬ t = b by omega)) 5).trans t5
      have t4_M4 : M4 t 4 = L := (congrFun (fxM4 t (show ¬ t = b by omega)) 4).trans t4
      have ta_M4 : M4 a = P := (fxM4 a (show ¬ a = b by omega)).trans tA
      have tF_M4 : M4 (t + 2) = F := (fxM4 (t + 2) (show ¬ (t + 2) = b by omega)).trans tF
      have tZ_M4 : M4 (t + 1) = Z := (fxM4 (t + 1) (show ¬ (t + 1) = b by omega)).trans tZ
      refine g_aload_n (pc' := 50) 1 dX7_settle_49 rfl rfl ?_
      refine g_lload_n (pc' := 51) 2 dX7_settle_50 rfl rfl ?_
      refine g_lload_n (pc' := 52) 0 dX7_settle_51 rfl rfl ?_
      refine g_ldiv (pc' := 53) hx ⟨by omega, by omega⟩ (by omega) dX7_settle_52 rfl ?_
      refine g_putL (pc' := 56) dX7_settle_53 rfl p_X7_25 ht.o rfl ⟨by omega, by omega⟩ (fun M5 hM5 => ?_)
      have fM5 : Fr (inT t) M M5 := Fr.wr fM4 hM5 (by unfold inT; omega)
      have t2_M5 : M5 t 2 = (a : Int) := (show M5 t 2 = M4 t 2 by rw [hM5]; exact mu_ne _ _ (fun _ => by decide)).trans t2_M4
      have t3_M5 : M5 t 3 = (b : Int) := (show M5 t 3 = M4 t 3 by rw [hM5]; exact mu_ne _ _ (fun _ => by decide)).trans t3_M4
      have t5_M5 : M5 t 5 = n := (show M5 t 5 = M4 t 5 by rw [hM5]; exact mu_ne _ _ (fun _ => by decide)).trans t5_M4
      have t4_M5 : M5 t 4 = x.tdiv u := by rw [hM5]; exact mu_at _ _ _ _
      have ta_M5 : M5 a = P := (show M5 a = M4 a by rw [hM5]; exact mu_cell _ _ (by omega)).trans ta_M4
      have tF_M5 : M5 (t + 2) = F := (show M5 (t + 2) = M4 (t + 2) by rw [hM5]; exact mu_cell _ _ (by omega)).trans tF_M4
      have tZ_M5 : M5 (t + 1) = Z := (show M5 (t + 1) = M4 (t + 1) by rw [hM5]; exact mu_cell _ _ (by omega)).trans tZ_M4
      have tb_M5 : M5 b = M4 b := (show M5 b = M4 b by rw [hM5]; exact mu_cell _ _ (by omega)).trans (rfl)
      refine g_aload_n (pc' := 57) 1 dX7_settle_56 rfl rfl ?_
      refine g_getD (pc' := 60) dX7_settle_57 rfl f_X7_18 ht.o rfl ?_
      rw [t2_M5, Int.toNat_natCast]
      refine g_astore (pc' := 62) (L' := [(5, vr X a), (3, vl u), (0, vr X t), (1, vl x)]) dX7_settle_60 rfl (by decide) rfl ?_
      refine g_aload_n (pc' := 63) 2 dX7_settle_62 rfl rfl ?_
      refine g_aload_n (pc' := 64) 2 dX7_settle_63 rfl rfl ?_
      refine g_getD (pc' := 67) dX7_settle_64 rfl f_X7_22 ht.o rfl ?_
      rw [t3_M5, Int.toNat_natCast]
      refine g_putD (.array .long) (pc' := 70) dX7_settle_67 rfl p_X7_18 ht.o rfl rfl rfl (fun M6 hM6 => ?_)
      have fM6 : Fr (inT t) M M6 := Fr.wr fM5 hM6 (by unfold inT; omega)
      have t2_M6 : M6 t 2 = ((b : Nat) : Int) := by rw [hM6]; exact mu_at _ _ _ _
      have t3_M6 : M6 t 3 = (b : Int) := (show M6 t 3 = M5 t 3 by rw [hM6]; exact mu_ne _ _ (fun _ => by decide)).trans t3_M5
      have t5_M6 : M6 t 5 = n := (show M6 t 5 = M5 t 5 by rw [hM6]; exact mu_ne _ _ (fun _ => by decide)).trans t5_M5
      have t4_M6 : M6 t 4 = x.tdiv u := (show M6 t 4 = M5 t 4 by rw [hM6]; exact mu_ne _ _ (fun _ => by decide)).trans t4_M5
      have ta_M6 : M6 a = P := (show M6 a = M5 a by rw [hM6]; exact mu_cell _ _ (by omega)).trans ta_M5
      have tF_M6 : M6 (t + 2) = F := (show M6 (t + 2) = M5 (t + 2) by rw [hM6]; exact mu_cell _ _ (by omega)).trans tF_M5
      have tZ_M6 : M6 (t + 1) = Z := (show M6 (t + 1) = M5 (t + 1) by rw [hM6]; exact mu_cell _ _ (by omega)).trans tZ_M5
      have tb_M6 : M6 b = M4 b := (show M6 b = M5 b by rw [hM6]; exact mu_cell _ _ (by omega)).trans tb_M5
      refine g_aload_n (pc' := 71) 2 dX7_settle_70 rfl rfl ?_
      refine g_aload (pc' := 73) 0 dX7_settle_71 rfl rfl ?_
      refine g_putD (.array .long) (pc' := 76) dX7_settle_73 rfl p_X7_22 ht.o rfl rfl rfl (fun M7 hM7 => ?_)
      have fM7 : Fr (inT t) M M7 := Fr.wr fM6 hM7 (by unfold inT; omega)
      have t2_M7 : M7 t 2 = ((b : Nat) : Int) := (show M7 t 2 = M6 t 2 by rw [hM7]; exact mu_ne _ _ (fun _ => by decide)).trans t2_M6
      have t3_M7 : M7 t 3 = ((a : Nat) : Int) := by rw [hM7]; exact mu_at _ _ _ _
      have t5_M7 : M7 t 5 = n := (show M7 t 5 = M6 t 5 by rw [hM7]; exact mu_ne _ _ (fun _ => by decide)).trans t5_M6
      have t4_M7 : M7 t 4 = x.tdiv u := (show M7 t 4 = M6 t 4 by rw [hM7]; exact mu_ne _ _ (fun _ => by decide)).trans t4_M6
      have ta_M7 : M7 a = P := (show M7 a = M6 a by rw [hM7]; exact mu_cell _ _ (by omega)).trans ta_M6
      have tF_M7 : M7 (t + 2) = F := (show M7 (t + 2) = M6 (t + 2) by rw [hM7]; exact mu_cell _ _ (by omega)).trans tF_M6
      have tZ_M7 : M7 (t + 1) = Z := (show M7 (t + 1) = M6 (t + 1) by rw [hM7]; exact mu_cell _ _ (by omega)).trans tZ_M6
      have tb_M7 : M7 b = M4 b := (show M7 b = M6 b by rw [hM7]; exact mu_cell _ _ (by omega)).trans tb_M6
      refine g_iconst (pc' := 77) dX7_settle_76 rfl ?_
      refine g_zreturn dX7_settle_77 (by omega) ?_
      exact ⟨TV.ok (⟨⟨t2_M7, t3_M7⟩, by omega, t5_M7, tb_M7, t4_M7, tF_M7, tZ_M7⟩ : TV M7 t b a n (M4 b) (x.tdiv u) F Z) ctn, fM7, t5_M7.trans t5.symm, STLQ.yes (⟨⟨t2_M7, t3_M7⟩, by omega, t5_M7, tb_M7, t4_M7, tF_M7, tZ_M7⟩ : TV M7 t b a n (M4 b) (x.tdiv u) F Z) u1 px.1 ud.1 (by omega) (by rw [t5] at dvM4; exact dvM4)⟩
    · refine g_iconst (pc' := 39) dX7_settle_38 rfl ?_
      refine g_zreturn dX7_settle_39 (by omega) ?_
      first | exact False.elim (by omega) | exact ⟨(TV.ok tv0 ctn), Fr.rf, t5.trans t5.symm, STLQ.no tv0 u1 ug px.1 ud.1 (by omega)⟩
set_option maxHeartbeats 4000000 in
set_option maxRecDepth 100000 in
theorem c_X7_settle_x (X : Cx) (M : Mm) (t : Nat) (ht : isT t) (ho : okT M t) (x : Int) (hx : inL x) (a b : Nat) (n : Int) (P : Nat → Int) (L : Int) (F Z : Nat → Int) (tv : TV M t a b n P L F Z) (ct : CT n P L F Z) (px : 1 ≤ x ∧ x ≤ 6000000000000000) (pN : ∀ j : Nat, (j : Int) < 4 * n → 0 ≤ M b j) : Con X 2 yX7_settle cX7_settle 6 (some .boolean) [vr X t, vl x] M (Qi (fun r M1 => okT M1 t ∧ Fr (inT t) M M1 ∧ M1 t 5 = M t 5 ∧ (STLQ M M1 t a b n P L F Z x r))) := by
  refine Con.ofG rfl (Nat.le_of_ble_eq_true rfl) ?_
  show G X 2 RX7 cX7_settle 6 (some .boolean) (Qi (fun r M1 => okT M1 t ∧ Fr (inT t) M M1 ∧ M1 t 5 = M t 5 ∧ (STLQ M M1 t a b n P L F Z x r))) 0 [(0, vr X t), (1, vl x)] [] M
  have tv0 := tv
  have tv1 := tv
  obtain ⟨⟨t2, t3⟩, hab, t5, tA, t4, tF, tZ⟩ := tv1
  have ctn := ct.1
  have ctL := ct.2.1
  have haa : a = t + 3 ∨ a = t + 4 := by omega
  have hbb : b = t + 3 ∨ b = t + 4 := by omega
  refine g_lload_n (pc' := 1) 1 dX7_settle_0 rfl rfl ?_
  refine g_ldc2 (pc' := 4) (v := 100000000000000) dX7_settle_1 rfl k_X7_78 ?_
  refine g_lc_le (pc' := 8) (tgt := 20) hx (by decide) dX7_settle_4 dX7_settle_5 rfl rfl (fun c1 => ?_) (fun c1 => ?_)
  · refine g_lconst (pc' := 21) (v := 1) dX7_settle_20 rfl (by decide) ?_
    refine g_lstore_n (pc' := 22) (i := 3) (L' := [(3, vl 1), (0, vr X t), (1, vl x)]) dX7_settle_21 rfl rfl (by decide) rfl ?_
    refine g_sub [0, 1, 2] rfl ?_
    exact j_X7_settle_x_22 X M t ht ho x hx a b n P L F Z tv ct px pN 1 (by first | assumption | decide | exact ⟨by omega, by omega⟩) (by omega) ⟨Int.one_dvd _, fun j _ => Int.one_dvd _⟩ (Or.inl (by omega))
  · refine g_aload_n (pc' := 9) 0 dX7_settle_8 rfl rfl ?_
    refine g_aload_n (pc' := 10) 0 dX7_settle_9 rfl rfl ?_
    refine g_getD (pc' := 13) dX7_settle_10 rfl f_X7_22 ht.o rfl ?_
    rw [t3, Int.toNat_natCast]
    refine g_lload_n (pc' := 14) 1 dX7_settle_13 rfl rfl ?_
    refine g_callVlp (pc' := 17) (As := [vr X b, vl x]) (b := t) (S := []) dX7_settle_14 rfl m_X7_80 w_X7_divisorOf (c_X7_divisorOf_x X M t ht (TV.ok tv0 ctn) b hbb x hx (by omega) (fun j hj => pN j (by rw [t5] at hj; exact hj))) rfl ⟨_, _, _, ht.o, rfl, rfl⟩ (by decide) (by decide) rfl (Nat.le_of_ble_eq_true rfl) (fun z3 q2 => ?_)
    have dg := q2.1
    have dg1 := q2.2.1
    have dg2 := q2.2.2
    rw [t5] at dg
    refine g_goto (tgt := 21) dX7_settle_17 rfl ?_
    refine g_lstore_n (pc' := 22) (i := 3) (L' := [(3, vl z3), (0, vr X t), (1, vl x)]) dX7_settle_21 rfl rfl (by decide) rfl ?_
    refine g_sub [0, 1, 2] rfl ?_
    exact j_X7_settle_x_22 X M t ht ho x hx a b n P L F Z tv ct px pN z3 (by first | assumption | decide | exact ⟨by omega, by omega⟩) (by omega) (dv_all dg) (Or.inr dg)
set_option maxHeartbeats 4000000 in
set_option maxRecDepth 100000 in
theorem c_X7_toLowestTerms_x (X : Cx) (M : Mm) (t : Nat) (ht : isT t) (ho : okT M t) (a b : Nat) (n : Int) (P : Nat → Int) (L : Int) (F Z : Nat → Int) (tv : TV M t a b n P L F Z) (ct : CT n P L F Z) : Con X 2 yX7_toLowestTerms cX7_toLowestTerms 3 none [vr X t] M (Qv (fun M1 => okT M1 t ∧ Fr (inT t) M M1 ∧ M1 t 5 = M t 5 ∧ (∃ (P1 : Nat → Int) (L1 : Int), TV M1 t a b n P1 L1 F Z ∧ DVD P P1 (gF P L (4 * n).toNat) n ∧ L = L1 * gF P L (4 * n).toNat))) := by
  refine Con.ofG rfl (Nat.le_of_ble_eq_true rfl) ?_
  show G X 2 RX7 cX7_toLowestTerms 3 none (Qv (fun M1 => okT M1 t ∧ Fr (inT t) M M1 ∧ M1 t 5 = M t 5 ∧ (∃ (P1 : Nat → Int) (L1 : Int), TV M1 t a b n P1 L1 F Z ∧ DVD P P1 (gF P L (4 * n).toNat) n ∧ L = L1 * gF P L (4 * n).toNat))) 0 [(0, vr X t)] [] M
  have tv0 := tv
  have tv1 := tv
  obtain ⟨⟨t2, t3⟩, hab, t5, tA, t4, tF, tZ⟩ := tv1
  have ctn := ct.1
  have ctL := ct.2.1
  have haa : a = t + 3 ∨ a = t + 4 := by omega
  have hbb : b = t + 3 ∨ b = t + 4 := by omega
  refine g_aload_n (pc' := 1) 0 dX7_toLowestTerms_0 rfl rfl ?_
  refine g_aload_n (pc' := 2) 0 dX7_toLowestTerms_1 rfl rfl ?_
  refine g_getD (pc' := 5) dX7_toLowestTerms_2 rfl f_X7_18 ht.o rfl ?_
  rw [t2, Int.toNat_natCast]
  refine g_aload_n (pc' := 6) 0 dX7_toLowestTerms_5 rfl rfl ?_
  refine g_getL (pc' := 9) dX7_toLowestTerms_6 rfl f_X7_25 ht.o rfl (fun v1 ev1 rv1 => ?_)
  have gv1 : v1 = L := ev1.trans t4
  refine g_callVlp (pc' := 12) (As := [vr X a, vl v1]) (b := t) (S := []) dX7_toLowestTerms_9 rfl m_X7_80 w_X7_divisorOf (c_X7_divisorOf_x X M t ht (TV.ok tv0 ctn) a haa v1 rv1 (by omega) (fun j hj => by rw [tA]; exact ct.2.2.1 j (by rw [t5] at hj; exact hj))) rfl ⟨_, _, _, ht.o, rfl, rfl⟩ (by decide) (by decide) rfl (Nat.le_of_ble_eq_true rfl) (fun z3 q2 => ?_)
  have dg := q2.1
  have dg1 := q2.2.1
  have dg2 := q2.2.2
  rw [t5, tA, gv1] at dg
  have ud := dv_all dg
  have td := tdv1 dg1 ctL.1 ud.1
  refine g_lstore_n (pc' := 13) (i := 1) (L' := [(1, vl z3), (0, vr X t)]) dX7_toLowestTerms_12 rfl rfl (by decide) rfl ?_
  refine g_lload_n (pc' := 14) 0 dX7_toLowestTerms_13 rfl rfl ?_
  refine g_lconst (pc' := 15) (v := 0) dX7_toLowestTerms_14 rfl (by decide) ?_
  refine g_lc_le (pc' := 19) (tgt := 38) ⟨by omega, by omega⟩ (by decide) dX7_toLowestTerms_15 dX7_toLowestTerms_16 rfl rfl (fun c4 => ?_) (fun c4 => ?_)
  · refine g_vreturn dX7_toLowestTerms_38 ?_
    exact False.elim (by omega)
  · refine g_aload_n (pc' := 20) 1 dX7_toLowestTerms_19 rfl rfl ?_
    refine g_aload_n (pc' := 21) 1 dX7_toLowestTerms_20 rfl rfl ?_
    refine g_getD (pc' := 24) dX7_toLowestTerms_21 rfl f_X7_18 ht.o rfl ?_
    rw [t2, Int.toNat_natCast]
    refine g_lload_n (pc' := 25) 0 dX7_toLowestTerms_24 rfl rfl ?_
    refine g_callVv (pc' := 28) (As := [vr X a, vl z3]) (b := t) (S := []) dX7_toLowestTerms_25 rfl m_X7_84 w_X7_divideBy (c_X7_divideBy_x X M t ht (TV.ok tv0 ctn) a haa z3 ⟨by omega, by omega⟩ (by omega) (fun j hj => ⟨by rw [tA]; exact ud.2 j (by rw [t5] at hj; exact hj), by rw [tA]; exact ct.2.2.1 j (by rw [t5] at hj; exact hj)⟩)) rfl ⟨_, _, _, ht.o, rfl, rfl⟩ (by decide) (by decide) rfl (Nat.le_of_ble_eq_true rfl) (fun M6 q5 => ?_)
    obtain ⟨kM6, fM60, gM60, pM6⟩ := q5
    have fM6 : Fr (inT t) M M6 := Fr.tr Fr.rf fM60 (fun _ z => z)
    obtain ⟨fxM6, dvM6⟩ := pM6
    rw [tA, t5] at dvM6
    have t2_M6 : M6 t 2 = (a : Int) := (congrFun (fxM6 t (show ¬ t = a by omega)) 2).trans t2
    have t3_M6 : M6 t 3 = (b : Int) := (congrFun (fxM6 t (show ¬ t = a by omega)) 3).trans t3
    have t5_M6 : M6 t 5 = n := (congrFun (fxM6 t (show ¬ t = a by omega)) 5).trans t5
    have t4_M6 : M6 t 4 = L := (congrFun (fxM6 t (show ¬ t = a by omega)) 4).trans t4
    have tF_M6 : M6 (t + 2) = F := (fxM6 (t + 2) (show ¬ (t + 2) = a by omega)).trans tF
    have tZ_M6 : M6 (t + 1) = Z := (fxM6 (t + 1) (show ¬ (t + 1) = a by omega)).trans tZ
    refine g_aload_n (pc' := 29) 1 dX7_toLowestTerms_28 rfl rfl ?_
    refine g_aload_n (pc' := 30) 1 dX7_toLowestTerms_29 rfl rfl ?_
    refine g_getL (pc' := 33) dX7_toLowestTerms_30 rfl f_X7_25 ht.o rfl (fun v7 ev7 rv7 => ?_)
    have gv7 : v7 = L := ev7.trans t4_M6
    refine g_lload_n (pc' := 34) 0 dX7_toLowestTerms_33 rfl rfl ?_
    refine g_ldiv (pc' := 35) rv7 ⟨by omega, by omega⟩ (by omega) dX7_toLowestTerms_34 rfl ?_
    obtain ⟨lq, hlq⟩ : ∃ z : Int, z = v7.tdiv z3 := ⟨_, rfl⟩
    rw [← hlq]
    rw [show v7 = L by omega] at hlq
    have dq := dvq dg1 (show 0 ≤ L by omega) ud.1
    rw [← hlq] at dq td
    refine g_putL (pc' := 38) dX7_toLowestTerms_35 rfl p_X7_25 ht.o rfl ⟨by omega, by omega⟩ (fun M8 hM8 => ?_)
    have fM8 : Fr (inT t) M M8 := Fr.wr fM6 hM8 (by unfold inT; omega)
    have t2_M8 : M8 t 2 = (a : Int) := (show M8 t 2 = M6 t 2 by rw [hM8]; exact mu_ne _ _ (fun _ => by decide)).trans t2_M6
    have t3_M8 : M8 t 3 = (b : Int) := (show M8 t 3 = M6 t 3 by rw [hM8]; exact mu_ne _ _ (fun _ => by decide)).trans t3_M6
    have t5_M8 : M8 t 5 = n := (show M8 t 5 = M6 t 5 by rw [hM8]; exact mu_ne _ _ (fun _ => by decide)).trans t5_M6
    have t4_M8 : M8 t 4 = lq := by rw [hM8]; exact mu_at _ _ _ _
    have ta_M8 : M8 a = M6 a := (show M8 a = M6 a by rw [hM8]; exact mu_cell _ _ (by omega)).trans (rfl)
    have tF_M8 : M8 (t + 2) = F := (show M8 (t + 2) = M6 (t + 2) by rw [hM8]; exact mu_cell _ _ (by omega)).trans tF_M6
    have tZ_M8 : M8 (t + 1) = Z := (show M8 (t + 1) = M6 (t + 1) by rw [hM8]; exact mu_cell _ _ (by omega)).trans tZ_M6
    refine g_vreturn dX7_toLowestTerms_38 ?_
    exact ⟨(TV.ok (⟨⟨t2_M8, t3_M8⟩, hab, t5_M8, ta_M8, t4_M8, tF_M8, tZ_M8⟩ : TV M8 t a b n (M6 a) lq F Z) ctn), fM8, t5_M8.trans t5.symm, M6 a, lq, (⟨⟨t2_M8, t3_M8⟩, hab, t5_M8, ta_M8, t4_M8, tF_M8, tZ_M8⟩ : TV M8 t a b n (M6 a) lq F Z), by rw [← dg]; exact dvM6, by rw [← dg]; exact dq.1⟩
set_option maxHeartbeats 4000000 in
set_option maxRecDepth 100000 in
theorem c_X7_carry_x (X : Cx) (M : Mm) (t : Nat) (ht : isT t) (ho : okT M t) (g : Int) (hg : inI g) (k : Int) (hk : inI k) (w : Int) (hw : inI w) (a b : Nat) (n : Int) (P : Nat → Int) (L : Int) (F Z : Nat → Int) (tv : TV M t a b n P L F Z) (ct : CT n P L F Z) : Con X 3 yX7_carry cX7_carry 4 (some .int) [vr X t, vi g, vi k, vi w] M (Qi (fun r M1 => okT M1 t ∧ Fr (inT t) M M1 ∧ M1 t 5 = M t 5 ∧ (∃ (a1 b1 : Nat) (P1 : Nat → Int) (L1 : Int) (F1 : Nat → Int), TV M1 t a1 b1 n P1 L1 F1 Z ∧ CARR (CANk n F Z g k w ∧ 0 ≤ k) n P L F g k w r P1 L1 F1))) := by
  refine Con.ofG rfl (Nat.le_of_ble_eq_true rfl) ?_
  show G X 3 RX7 cX7_carry 4 (some .int) (Qi (fun r M1 => okT M1 t ∧ Fr (inT t) M M1 ∧ M1 t 5 = M t 5 ∧ (∃ (a1 b1 : Nat) (P1 : Nat → Int) (L1 : Int) (F1 : Nat → Int), TV M1 t a1 b1 n P1 L1 F1 Z ∧ CARR (CANk n F Z g k w ∧ 0 ≤ k) n P L F g k w r P1 L1 F1))) 0 [(0, vr X t), (1, vi g), (2, vi k), (3, vi w)] [] M
  have tv0 := tv
  have tv1 := tv
  obtain ⟨⟨t2, t3⟩, hab, t5, tA, t4, tF, tZ⟩ := tv1
  have ctn := ct.1
  have ctL := ct.2.1
  have haa : a = t + 3 ∨ a = t + 4 := by omega
  have hbb : b = t + 3 ∨ b = t + 4 := by omega
  refine g_aload_n (pc' := 1) 0 dX7_carry_0 rfl rfl ?_
  refine g_iload_n (pc' := 2) 1 dX7_carry_1 rfl rfl ?_
  refine g_iload_n (pc' := 3) 2 dX7_carry_2 rfl rfl ?_
  refine g_iload_n (pc' := 4) 3 dX7_carry_3 rfl rfl ?_
  refine g_callVip (pc' := 7) (As := [vi g, vi k, vi w]) (b := t) (S := []) dX7_carry_4 rfl m_X7_66 w_X7_canCarry (c_X7_canCarry_x X M t ht (TV.ok tv0 ctn) g hg k hk w hw a b n P L F Z tv0 ct) rfl ⟨_, _, _, ht.o, rfl, rfl⟩ (by decide) (by decide) rfl (Nat.le_of_ble_eq_true rfl) (fun z2 q1 => ?_)
  unfold CANk at q1
  refine g_if_ne (pc' := 10) (tgt := 13) ⟨by omega, by omega⟩ dX7_carry_7 rfl rfl (fun c3 => ?_) (fun c3 => ?_)
  · replace q1 := q1.resolve_right (fun h => c3 h.1)
    have fbg := (ct.2.2.2 g.toNat (by omega)).1
    have fbk := (ct.2.2.2 k.toNat (by omega)).1
    refine g_aload_n (pc' := 14) 0 dX7_carry_13 rfl rfl ?_
    refine g_iload_n (pc' := 15) 1 dX7_carry_14 rfl rfl ?_
    refine g_iload_n (pc' := 16) 2 dX7_carry_15 rfl rfl ?_
    refine g_iload_n (pc' := 17) 3 dX7_carry_16 rfl rfl ?_
    refine g_callVv (pc' := 20) (As := [vi g, vi k, vi w]) (b := t) (S := []) dX7_carry_17 rfl m_X7_70 w_X7_share (c_X7_share_x X M t ht (TV.ok tv0 ctn) g hg k hk w hw a b n P L F Z tv0 ct (by omega) (by omega) (by omega) (by omega)) rfl ⟨_, _, _, ht.o, rfl, rfl⟩ (by decide) (by decide) rfl (Nat.le_of_ble_eq_true rfl) (fun M5 q4 => ?_)
    obtain ⟨kM5, fM50, gM50, pM5⟩ := q4
    have fM5 : Fr (inT t) M M5 := Fr.tr Fr.rf fM50 (fun _ z => z)
    obtain ⟨⟨⟨t2_M5, t3_M5⟩, -, t5_M5, ta_M5, t4_M5, tF_M5, tZ_M5⟩, hsh⟩ := pM5
    refine g_aload_n (pc' := 21) 0 dX7_carry_20 rfl rfl ?_
    refine g_aload_n (pc' := 22) 0 dX7_carry_21 rfl rfl ?_
    refine g_getL (pc' := 25) dX7_carry_22 rfl f_X7_25 ht.o rfl (fun v6 ev6 rv6 => ?_)
    have gv6 : v6 = L := ev6.trans t4_M5
    refine g_aload_n (pc' := 26) 0 dX7_carry_25 rfl rfl ?_
    refine g_getR (pc' := 29) dX7_carry_26 rfl f_X7_15 ht.o rfl ?_
    refine g_iload_n (pc' := 30) 1 dX7_carry_29 rfl rfl ?_
    refine g_iald (pc' := 31) dX7_carry_30 rfl ht.f (by omega) (by omega) (fun v7 ev7 rv7 => ?_)
    have gv7 : v7 = F g.toNat := ev7.trans (congrFun tF_M5 _)
    have bv7 := ct.2.2.2 g.toNat (by omega)
    have cv7 := bv7.1
    clear bv7
    refine g_i2l (pc' := 32) rv7 dX7_carry_31 rfl ?_
    refine g_lmul (pc' := 33) dX7_carry_32 rfl ?_
    obtain ⟨xw, hxw⟩ : ∃ z : Int, z = v6 * v7 := ⟨_, rfl⟩
    rw [← hxw]
    have hxe : xw = L * F g.toNat := by rw [hxw, show v6 = L by omega, show v7 = F g.toNat by omega]
    have xb := mul60 (f := F g.toNat) (L := L) (B := 100000000000000) (by omega) (by omega) ctL.1 ctL.2
    have xb1 : 1 ≤ xw ∧ xw ≤ 6000000000000000 := by
      have q := Int.mul_le_mul ctL.1 (show 1 ≤ F g.toNat by omega) (by omega) (by omega)
      rw [Int.mul_comm] at xb
      omega
    refine g_callVi (pc' := 36) (As := [vl xw]) (b := t) (S := []) dX7_carry_33 rfl m_X7_74 w_X7_settle (c_X7_settle_x X M5 t ht (TV.ok (⟨⟨t2_M5, t3_M5⟩, hab, t5_M5, ta_M5, t4_M5, tF_M5, tZ_M5⟩ : TV M5 t a b n P L F Z) ctn) xw ⟨by omega, by omega⟩ a b n P L F Z (⟨⟨t2_M5, t3_M5⟩, hab, t5_M5, ta_M5, t4_M5, tF_M5, tZ_M5⟩ : TV M5 t a b n P L F Z) ct (by omega) (fun j hj => by rw [hsh j hj]; exact shr_nn ct (by omega) (by omega) hj)) rfl ⟨_, _, _, ht.o, rfl, rfl⟩ (by decide) (by decide) rfl (Nat.le_of_ble_eq_true rfl) (fun z9 M10 q8 => ?_)
    obtain ⟨kM10, fM100, gM100, pM10⟩ := q8
    have fM10 : Fr (inT t) M M10 := Fr.tr fM5 fM100 (fun _ z => z)
    have prM10 := pM10.r
    refine g_if_ne (pc' := 39) (tgt := 42) ⟨by omega, by omega⟩ dX7_carry_36 rfl rfl (fun c11 => ?_) (fun c11 => ?_)
    · obtain ⟨-, P1, L1, d1, ⟨⟨s2, s3⟩, -, s5, sb, s4, sF, sZ⟩, hd1, hDV, hLd, hL1⟩ := pM10.resolve_left (fun z => by omega)
      refine g_aload_n (pc' := 43) 0 dX7_carry_42 rfl rfl ?_
      refine g_getR (pc' := 46) dX7_carry_43 rfl f_X7_15 ht.o rfl ?_
      refine g_iload_n (pc' := 47) 1 dX7_carry_46 rfl rfl ?_
      refine g_dup2_11 (pc' := 48) dX7_carry_47 rfl rfl rfl ?_
      refine g_iald (pc' := 49) dX7_carry_48 rfl ht.f (by omega) (by omega) (fun v12 ev12 rv12 => ?_)
      have gv12 : v12 = F g.toNat := ev12.trans (congrFun sF _)
      have bv12 := ct.2.2.2 g.toNat (by omega)
      have cv12 := bv12.1
      clear bv12
      refine g_iload_n (pc' := 50) 3 dX7_carry_49 rfl rfl ?_
      refine g_isub (pc' := 51) dX7_carry_50 rfl ?_
      refine g_iast (pc' := 52) dX7_carry_51 rfl ht.f (by omega) (by omega) ⟨by omega, by omega⟩ (fun M13 hM13 => ?_)
      have fM13 : Fr (inT t) M M13 := Fr.wr fM10 hM13 (by unfold inT; omega)
      have t2_M13 : M13 t 2 = (b : Int) := (show M13 t 2 = M10 t 2 by rw [hM13]; exact mu_ne _ _ (fun z => absurd z (by omega))).trans s2
      have t3_M13 : M13 t 3 = (a : Int) := (show M13 t 3 = M10 t 3 by rw [hM13]; exact mu_ne _ _ (fun z => absurd z (by omega))).trans s3
      have t5_M13 : M13 t 5 = n := (show M13 t 5 = M10 t 5 by rw [hM13]; exact mu_ne _ _ (fun z => absurd z (by omega))).trans s5
      have tb_M13 : M13 b = P1 := (show M13 b = M10 b by rw [hM13]; exact mu_cell _ _ (by omega)).trans sb
      have t4_M13 : M13 t 4 = L1 := (show M13 t 4 = M10 t 4 by rw [hM13]; exact mu_ne _ _ (fun z => absurd z (by omega))).trans s4
      have tF_M13 : M13 (t + 2) = ms F g.toNat (v12 - w) := by rw [hM13, mu_is, sF]
      have tZ_M13 : M13 (t + 1) = Z := (show M13 (t + 1) = M10 (t + 1) by rw [hM13]; exact mu_cell _ _ (by omega)).trans sZ
      refine g_aload_n (pc' := 53) 0 dX7_carry_52 rfl rfl ?_
      refine g_getR (pc' := 56) dX7_carry_53 rfl f_X7_15 ht.o rfl ?_
      refine g_iload_n (pc' := 57) 2 dX7_carry_56 rfl rfl ?_
      refine g_dup2_11 (pc' := 58) dX7_carry_57 rfl rfl rfl ?_
      refine g_iald (pc' := 59) dX7_carry_58 rfl ht.f (by omega) (by omega) (fun v14 ev14 rv14 => ?_)
      have gv14 : v14 = (ms F g.toNat (v12 - w)) k.toNat := ev14.trans (congrFun tF_M13 _)
      have kv14 : v14 = F k.toNat := by rw [gv14, ms_ne _ _ (by omega)]
      refine g_iload_n (pc' := 60) 3 dX7_carry_59 rfl rfl ?_
      refine g_iadd (pc' := 61) dX7_carry_60 rfl ?_
      refine g_iast (pc' := 62) dX7_carry_61 rfl ht.f (by omega) (by omega) ⟨by omega, by omega⟩ (fun M15 hM15 => ?_)
      have fM15 : Fr (inT t) M M15 := Fr.wr fM13 hM15 (by unfold inT; omega)
      have t2_M15 : M15 t 2 = (b : Int) := (show M15 t 2 = M13 t 2 by rw [hM15]; exact mu_ne _ _ (fun z => absurd z (by omega))).trans t2_M13
      have t3_M15 : M15 t 3 = (a : Int) := (show M15 t 3 = M13 t 3 by rw [hM15]; exact mu_ne _ _ (fun z => absurd z (by omega))).trans t3_M13
      have t5_M15 : M15 t 5 = n := (show M15 t 5 = M13 t 5 by rw [hM15]; exact mu_ne _ _ (fun z => absurd z (by omega))).trans t5_M13
      have tb_M15 : M15 b = P1 := (show M15 b = M13 b by rw [hM15]; exact mu_cell _ _ (by omega)).trans tb_M13
      have t4_M15 : M15 t 4 = L1 := (show M15 t 4 = M13 t 4 by rw [hM15]; exact mu_ne _ _ (fun z => absurd z (by omega))).trans t4_M13
      have tF_M15 : M15 (t + 2) = ms (ms F g.toNat (v12 - w)) k.toNat (v14 + w) := by rw [hM15, mu_is, tF_M13]
      have tZ_M15 : M15 (t + 1) = Z := (show M15 (t + 1) = M13 (t + 1) by rw [hM15]; exact mu_cell _ _ (by omega)).trans tZ_M13
      refine g_iconst (pc' := 63) dX7_carry_62 rfl ?_
      refine g_ireturn dX7_carry_63 ?_
      exact ⟨TV.ok (⟨⟨t2_M15, t3_M15⟩, by omega, t5_M15, tb_M15, t4_M15, tF_M15, tZ_M15⟩ : TV M15 t b a n P1 L1 (ms (ms F g.toNat (v12 - w)) k.toNat (v14 + w)) Z) ctn, fM15, t5_M15.trans t5.symm, b, a, P1, L1, (ms (ms F g.toNat (v12 - w)) k.toNat (v14 + w)), (⟨⟨t2_M15, t3_M15⟩, by omega, t5_M15, tb_M15, t4_M15, tF_M15, tZ_M15⟩ : TV M15 t b a n P1 L1 (ms (ms F g.toNat (v12 - w)) k.toNat (v14 + w)) Z), CARR.yes (by unfold CANk; omega) hsh hxe hd1 hDV hLd hL1 (shF_2 (by omega) (by omega) (by omega) (by omega) (by omega))⟩
    · obtain ⟨-, ⟨⟨s2, s3⟩, -, s5, sa, s4, sF, sZ⟩, hno⟩ := pM10.resolve_right (fun z => by omega)
      refine g_bipush (pc' := 41) (v := (-5)) dX7_carry_39 rfl (by decide) ?_
      refine g_ireturn dX7_carry_41 ?_
      exact ⟨(TV.ok (⟨⟨s2, s3⟩, hab, s5, sa, s4, sF, sZ⟩ : TV M10 t a b n P L F Z) ctn), fM10, s5.trans t5.symm, a, b, P, L, F, (⟨⟨s2, s3⟩, hab, s5, sa, s4, sF, sZ⟩ : TV M10 t a b n P L F Z), CARR.room (by unfold CANk; omega) hsh hxe hno⟩
  · replace q1 := q1.resolve_left (fun h => absurd (c3.symm.trans h.1) (by decide))
    refine g_bipush (pc' := 12) (v := (-3)) dX7_carry_10 rfl (by decide) ?_
    refine g_ireturn dX7_carry_12 ?_
    exact ⟨(TV.ok tv0 ctn), Fr.rf, t5.trans t5.symm, a, b, P, L, F, tv0, CARR.no (by unfold CANk; omega)⟩
set_option maxHeartbeats 4000000 in
set_option maxRecDepth 100000 in
theorem c_X7_takeOut_x (X : Cx) (M : Mm) (t : Nat) (ht : isT t) (ho : okT M t) (g : Int) (hg : inI g) (w : Int) (hw : inI w) (a b : Nat) (n : Int) (P : Nat → Int) (L : Int) (F Z : Nat → Int) (tv : TV M t a b n P L F Z) (ct : CT n P L F Z) : Con X 3 yX7_takeOut cX7_takeOut 3 (some .int) [vr X t, vi g, vi w] M (Qi (fun r M1 => okT M1 t ∧ Fr (inT t) M M1 ∧ M1 t 5 = M t 5 ∧ (∃ (a1 b1 : Nat) (P1 : Nat → Int) (L1 : Int) (F1 : Nat → Int), TV M1 t a1 b1 n P1 L1 F1 Z ∧ CARR (CANk n F Z g (-1) w) n P L F g (-1) w r P1 L1 F1))) := by
  refine Con.ofG rfl (Nat.le_of_ble_eq_true rfl) ?_
  show G X 3 RX7 cX7_takeOut 3 (some .int) (Qi (fun r M1 => okT M1 t ∧ Fr (inT t) M M1 ∧ M1 t 5 = M t 5 ∧ (∃ (a1 b1 : Nat) (P1 : Nat → Int) (L1 : Int) (F1 : Nat → Int), TV M1 t a1 b1 n P1 L1 F1 Z ∧ CARR (CANk n F Z g (-1) w) n P L F g (-1) w r P1 L1 F1))) 0 [(0, vr X t), (1, vi g), (2, vi w)] [] M
  have tv0 := tv
  have tv1 := tv
  obtain ⟨⟨t2, t3⟩, hab, t5, tA, t4, tF, tZ⟩ := tv1
  have ctn := ct.1
  have ctL := ct.2.1
  have haa : a = t + 3 ∨ a = t + 4 := by omega
  have hbb : b = t + 3 ∨ b = t + 4 := by omega
  refine g_iload_n (pc' := 1) 2 dX7_takeOut_0 rfl rfl ?_
  refine g_callSip (pc' := 4) (As := [vi w]) (S := []) dX7_takeOut_1 rfl m_X7_57 w_X9_isAmount (c_X9_isAmount X M w hw) rfl (by decide) (by decide) rfl (Nat.le_of_ble_eq_true rfl) (fun z2 q1 => ?_)
  refine g_if_eq (pc' := 7) (tgt := 16) ⟨by omega, by omega⟩ dX7_takeOut_4 rfl rfl (fun c3 => ?_) (fun c3 => ?_)
  · replace q1 := q1.resolve_left (fun h => absurd (c3.symm.trans h.1) (by decide))
    refine g_bipush (pc' := 18) (v := (-3)) dX7_takeOut_16 rfl (by decide) ?_
    refine g_ireturn dX7_takeOut_18 ?_
    exact ⟨(TV.ok tv0 ctn), Fr.rf, t5.trans t5.symm, a, b, P, L, F, tv0, CARR.no (by unfold CANk; omega)⟩
  · replace q1 := q1.resolve_right (fun h => c3 h.1)
    refine g_aload_n (pc' := 8) 0 dX7_takeOut_7 rfl rfl ?_
    refine g_iload_n (pc' := 9) 1 dX7_takeOut_8 rfl rfl ?_
    refine g_callVip (pc' := 12) (As := [vi g]) (b := t) (S := []) dX7_takeOut_9 rfl m_X7_39 w_X7_fullOf (c_X7_fullOf_x X M t ht (TV.ok tv0 ctn) g hg a b n P L F Z tv0 ct) rfl ⟨_, _, _, ht.o, rfl, rfl⟩ (by decide) (by decide) rfl (Nat.le_of_ble_eq_true rfl) (fun z5 q4 => ?_)
    have q4a := q4.1
    have q4b := q4.2
    unfold szQ at q4b
    clear q4
    refine g_iload_n (pc' := 13) 2 dX7_takeOut_12 rfl rfl ?_
    refine g_ic_ge (pc' := 16) (tgt := 19) ⟨by omega, by omega⟩ hw dX7_takeOut_13 rfl rfl (fun c6 => ?_) (fun c6 => ?_)
    · have fbg := (ct.2.2.2 g.toNat (by omega)).1
      refine g_aload_n (pc' := 20) 0 dX7_takeOut_19 rfl rfl ?_
      refine g_iload_n (pc' := 21) 1 dX7_takeOut_20 rfl rfl ?_
      refine g_iconst (pc' := 22) dX7_takeOut_21 rfl ?_
      refine g_iload_n (pc' := 23) 2 dX7_takeOut_22 rfl rfl ?_
      refine g_callVv (pc' := 26) (As := [vi g, vi (-1), vi w]) (b := t) (S := []) dX7_takeOut_23 rfl m_X7_70 w_X7_share (c_X7_share_x X M t ht (TV.ok tv0 ctn) g hg (-1) (by decide) w hw a b n P L F Z tv0 ct (by omega) (by omega) (by omega) (by omega)) rfl ⟨_, _, _, ht.o, rfl, rfl⟩ (by decide) (by decide) rfl (Nat.le_of_ble_eq_true rfl) (fun M8 q7 => ?_)
      obtain ⟨kM8, fM80, gM80, pM8⟩ := q7
      have fM8 : Fr (inT t) M M8 := Fr.tr Fr.rf fM80 (fun _ z => z)
      obtain ⟨⟨⟨t2_M8, t3_M8⟩, -, t5_M8, ta_M8, t4_M8, tF_M8, tZ_M8⟩, hsh⟩ := pM8
      refine g_aload_n (pc' := 27) 0 dX7_takeOut_26 rfl rfl ?_
      refine g_aload_n (pc' := 28) 0 dX7_takeOut_27 rfl rfl ?_
      refine g_getL (pc' := 31) dX7_takeOut_28 rfl f_X7_25 ht.o rfl (fun v9 ev9 rv9 => ?_)
      have gv9 : v9 = L := ev9.trans t4_M8
      refine g_aload_n (pc' := 32) 0 dX7_takeOut_31 rfl rfl ?_
      refine g_getR (pc' := 35) dX7_takeOut_32 rfl f_X7_15 ht.o rfl ?_
      refine g_iload_n (pc' := 36) 1 dX7_takeOut_35 rfl rfl ?_
      refine g_iald (pc' := 37) dX7_takeOut_36 rfl ht.f (by omega) (by omega) (fun v10 ev10 rv10 => ?_)
      have gv10 : v10 = F g.toNat := ev10.trans (congrFun tF_M8 _)
      have bv10 := ct.2.2.2 g.toNat (by omega)
      have cv10 := bv10.1
      clear bv10
      refine g_i2l (pc' := 38) rv10 dX7_takeOut_37 rfl ?_
      refine g_lmul (pc' := 39) dX7_takeOut_38 rfl ?_
      obtain ⟨xw, hxw⟩ : ∃ z : Int, z = v9 * v10 := ⟨_, rfl⟩
      rw [← hxw]
      have hxe : xw = L * F g.toNat := by rw [hxw, show v9 = L by omega, show v10 = F g.toNat by omega]
      have xb := mul60 (f := F g.toNat) (L := L) (B := 100000000000000) (by omega) (by omega) ctL.1 ctL.2
      have xb1 : 1 ≤ xw ∧ xw ≤ 6000000000000000 := by
        have q := Int.mul_le_mul ctL.1 (show 1 ≤ F g.toNat by omega) (by omega) (by omega)
        rw [Int.mul_comm] at xb
        omega
      refine g_callVi (pc' := 42) (As := [vl xw]) (b := t) (S := []) dX7_takeOut_39 rfl m_X7_74 w_X7_settle (c_X7_settle_x X M8 t ht (TV.ok (⟨⟨t2_M8, t3_M8⟩, hab, t5_M8, ta_M8, t4_M8, tF_M8, tZ_M8⟩ : TV M8 t a b n P L F Z) ctn) xw ⟨by omega, by omega⟩ a b n P L F Z (⟨⟨t2_M8, t3_M8⟩, hab, t5_M8, ta_M8, t4_M8, tF_M8, tZ_M8⟩ : TV M8 t a b n P L F Z) ct (by omega) (fun j hj => by rw [hsh j hj]; exact shr_nn ct (by omega) (by omega) hj)) rfl ⟨_, _, _, ht.o, rfl, rfl⟩ (by decide) (by decide) rfl (Nat.le_of_ble_eq_true rfl) (fun z12 M13 q11 => ?_)
      obtain ⟨kM13, fM130, gM130, pM13⟩ := q11
      have fM13 : Fr (inT t) M M13 := Fr.tr fM8 fM130 (fun _ z => z)
      have prM13 := pM13.r
      refine g_if_ne (pc' := 45) (tgt := 48) ⟨by omega, by omega⟩ dX7_takeOut_42 rfl rfl (fun c14 => ?_) (fun c14 => ?_)
      · obtain ⟨-, P1, L1, d1, ⟨⟨s2, s3⟩, -, s5, sb, s4, sF, sZ⟩, hd1, hDV, hLd, hL1⟩ := pM13.resolve_left (fun z => by omega)
        refine g_aload_n (pc' := 49) 0 dX7_takeOut_48 rfl rfl ?_
        refine g_getR (pc' := 52) dX7_takeOut_49 rfl f_X7_15 ht.o rfl ?_
        refine g_iload_n (pc' := 53) 1 dX7_takeOut_52 rfl rfl ?_
        refine g_dup2_11 (pc' := 54) dX7_takeOut_53 rfl rfl rfl ?_
        refine g_iald (pc' := 55) dX7_takeOut_54 rfl ht.f (by omega) (by omega) (fun v15 ev15 rv15 => ?_)
        have gv15 : v15 = F g.toNat := ev15.trans (congrFun sF _)
        have bv15 := ct.2.2.2 g.toNat (by omega)
        have cv15 := bv15.1
        clear bv15
        refine g_iload_n (pc' := 56) 2 dX7_takeOut_55 rfl rfl ?_
        refine g_isub (pc' := 57) dX7_takeOut_56 rfl ?_
        refine g_iast (pc' := 58) dX7_takeOut_57 rfl ht.f (by omega) (by omega) ⟨by omega, by omega⟩ (fun M16 hM16 => ?_)
        have fM16 : Fr (inT t) M M16 := Fr.wr fM13 hM16 (by unfold inT; omega)
        have t2_M16 : M16 t 2 = (b : Int) := (show M16 t 2 = M13 t 2 by rw [hM16]; exact mu_ne _ _ (fun z => absurd z (by omega))).trans s2
        have t3_M16 : M16 t 3 = (a : Int) := (show M16 t 3 = M13 t 3 by rw [hM16]; exact mu_ne _ _ (fun z => absurd z (by omega))).trans s3
        have t5_M16 : M16 t 5 = n := (show M16 t 5 = M13 t 5 by rw [hM16]; exact mu_ne _ _ (fun z => absurd z (by omega))).trans s5
        have tb_M16 : M16 b = P1 := (show M16 b = M13 b by rw [hM16]; exact mu_cell _ _ (by omega)).trans sb
        have t4_M16 : M16 t 4 = L1 := (show M16 t 4 = M13 t 4 by rw [hM16]; exact mu_ne _ _ (fun z => absurd z (by omega))).trans s4
        have tF_M16 : M16 (t + 2) = ms F g.toNat (v15 - w) := by rw [hM16, mu_is, sF]
        have tZ_M16 : M16 (t + 1) = Z := (show M16 (t + 1) = M13 (t + 1) by rw [hM16]; exact mu_cell _ _ (by omega)).trans sZ
        refine g_iconst (pc' := 59) dX7_takeOut_58 rfl ?_
        refine g_ireturn dX7_takeOut_59 ?_
        exact ⟨TV.ok (⟨⟨t2_M16, t3_M16⟩, by omega, t5_M16, tb_M16, t4_M16, tF_M16, tZ_M16⟩ : TV M16 t b a n P1 L1 (ms F g.toNat (v15 - w)) Z) ctn, fM16, t5_M16.trans t5.symm, b, a, P1, L1, (ms F g.toNat (v15 - w)), (⟨⟨t2_M16, t3_M16⟩, by omega, t5_M16, tb_M16, t4_M16, tF_M16, tZ_M16⟩ : TV M16 t b a n P1 L1 (ms F g.toNat (v15 - w)) Z), CARR.yes (by unfold CANk; omega) hsh hxe hd1 hDV hLd hL1 (shF_1 (by omega) rfl (by omega))⟩
      · obtain ⟨-, ⟨⟨s2, s3⟩, -, s5, sa, s4, sF, sZ⟩, hno⟩ := pM13.resolve_right (fun z => by omega)
        refine g_bipush (pc' := 47) (v := (-5)) dX7_takeOut_45 rfl (by decide) ?_
        refine g_ireturn dX7_takeOut_47 ?_
        exact ⟨(TV.ok (⟨⟨s2, s3⟩, hab, s5, sa, s4, sF, sZ⟩ : TV M13 t a b n P L F Z) ctn), fM13, s5.trans t5.symm, a, b, P, L, F, (⟨⟨s2, s3⟩, hab, s5, sa, s4, sF, sZ⟩ : TV M13 t a b n P L F Z), CARR.room (by unfold CANk; omega) hsh hxe hno⟩
    · refine g_bipush (pc' := 18) (v := (-3)) dX7_takeOut_16 rfl (by decide) ?_
      refine g_ireturn dX7_takeOut_18 ?_
      exact ⟨(TV.ok tv0 ctn), Fr.rf, t5.trans t5.symm, a, b, P, L, F, tv0, CARR.no (by unfold CANk; omega)⟩
set_option maxHeartbeats 4000000 in
set_option maxRecDepth 100000 in
theorem c_X7_pour_x (X : Cx) (M : Mm) (t : Nat) (ht : isT t) (ho : okT M t) (g : Int) (hg : inI g) (s : Int) (hs : inI s) (w : Int) (hw : inI w) (a b : Nat) (n : Int) (P : Nat → Int) (L : Int) (F Z : Nat → Int) (tv : TV M t a b n P L F Z) (ct : CT n P L F Z) : Con X 2 yX7_pour cX7_pour 4 (some .int) [vr X t, vi g, vi s, vi w] M (Qi (fun r M1 => okT M1 t ∧ Fr (inT t) M M1 ∧ M1 t 5 = M t 5 ∧ (∃ P1 F1 : Nat → Int, TV M1 t a b n P1 L F1 Z ∧ POU n P L F Z g s w r P1 F1))) := by
  refine Con.ofG rfl (Nat.le_of_ble_eq_true rfl) ?_
  show G X 2 RX7 cX7_pour 4 (some .int) (Qi (fun r M1 => okT M1 t ∧ Fr (inT t) M M1 ∧ M1 t 5 = M t 5 ∧ (∃ P1 F1 : Nat → Int, TV M1 t a b n P1 L F1 Z ∧ POU n P L F Z g s w r P1 F1))) 0 [(0, vr X t), (1, vi g), (2, vi s), (3, vi w)] [] M
  have tv0 := tv
  have tv1 := tv
  obtain ⟨⟨t2, t3⟩, hab, t5, tA, t4, tF, tZ⟩ := tv1
  have ctn := ct.1
  have ctL := ct.2.1
  have haa : a = t + 3 ∨ a = t + 4 := by omega
  have hbb : b = t + 3 ∨ b = t + 4 := by omega
  refine g_iload_n (pc' := 1) 3 dX7_pour_0 rfl rfl ?_
  refine g_callSip (pc' := 4) (As := [vi w]) (S := []) dX7_pour_1 rfl m_X7_57 w_X9_isAmount (c_X9_isAmount X M w hw) rfl (by decide) (by decide) rfl (Nat.le_of_ble_eq_true rfl) (fun z2 q1 => ?_)
  refine g_if_eq (pc' := 7) (tgt := 29) ⟨by omega, by omega⟩ dX7_pour_4 rfl rfl (fun c3 => ?_) (fun c3 => ?_)
  · replace q1 := q1.resolve_left (fun h => absurd (c3.symm.trans h.1) (by decide))
    refine g_bipush (pc' := 31) (v := (-3)) dX7_pour_29 rfl (by decide) ?_
    refine g_ireturn dX7_pour_31 ?_
    exact ⟨(TV.ok tv0 ctn), Fr.rf, t5.trans t5.symm, P, F, tv0, ⟨fun _ => ⟨rfl, rfl, rfl⟩, fun z => absurd z (by omega)⟩⟩
  · replace q1 := q1.resolve_right (fun h => c3 h.1)
    refine g_iload_n (pc' := 8) 2 dX7_pour_7 rfl rfl ?_
    refine g_callSip (pc' := 11) (As := [vi s]) (S := []) dX7_pour_8 rfl m_X7_60 w_X9_isStuff (c_X9_isStuff X M s hs) rfl (by decide) (by decide) rfl (Nat.le_of_ble_eq_true rfl) (fun z5 q4 => ?_)
    refine g_if_eq (pc' := 14) (tgt := 29) ⟨by omega, by omega⟩ dX7_pour_11 rfl rfl (fun c6 => ?_) (fun c6 => ?_)
    · replace q4 := q4.resolve_left (fun h => absurd (c6.symm.trans h.1) (by decide))
      refine g_bipush (pc' := 31) (v := (-3)) dX7_pour_29 rfl (by decide) ?_
      refine g_ireturn dX7_pour_31 ?_
      exact ⟨(TV.ok tv0 ctn), Fr.rf, t5.trans t5.symm, P, F, tv0, ⟨fun _ => ⟨rfl, rfl, rfl⟩, fun z => absurd z (by omega)⟩⟩
    · replace q4 := q4.resolve_right (fun h => c6 h.1)
      refine g_aload_n (pc' := 15) 0 dX7_pour_14 rfl rfl ?_
      refine g_iload_n (pc' := 16) 1 dX7_pour_15 rfl rfl ?_
      refine g_callVip (pc' := 19) (As := [vi g]) (b := t) (S := []) dX7_pour_16 rfl m_X7_63 w_X7_sizeOf (c_X7_sizeOf_x X M t ht (TV.ok tv0 ctn) g hg a b n P L F Z tv0 ct) rfl ⟨_, _, _, ht.o, rfl, rfl⟩ (by decide) (by decide) rfl (Nat.le_of_ble_eq_true rfl) (fun z8 q7 => ?_)
      have q7a := q7.1
      have q7b := q7.2
      unfold szQ at q7b
      clear q7
      refine g_aload_n (pc' := 20) 0 dX7_pour_19 rfl rfl ?_
      refine g_iload_n (pc' := 21) 1 dX7_pour_20 rfl rfl ?_
      refine g_callVip (pc' := 24) (As := [vi g]) (b := t) (S := [vi z8]) dX7_pour_21 rfl m_X7_39 w_X7_fullOf (c_X7_fullOf_x X M t ht (TV.ok tv0 ctn) g hg a b n P L F Z tv0 ct) rfl ⟨_, _, _, ht.o, rfl, rfl⟩ (by decide) (by decide) rfl (Nat.le_of_ble_eq_true rfl) (fun z10 q9 => ?_)
      have q9a := q9.1
      have q9b := q9.2
      unfold szQ at q9b
      clear q9
      refine g_isub (pc' := 25) dX7_pour_24 rfl ?_
      refine g_iload_n (pc' := 26) 3 dX7_pour_25 rfl rfl ?_
      refine g_ic_ge (pc' := 29) (tgt := 32) ⟨by omega, by omega⟩ hw dX7_pour_26 rfl rfl (fun c11 => ?_) (fun c11 => ?_)
      · refine g_aload_n (pc' := 33) 0 dX7_pour_32 rfl rfl ?_
        refine g_getR (pc' := 36) dX7_pour_33 rfl f_X7_15 ht.o rfl ?_
        refine g_iload_n (pc' := 37) 1 dX7_pour_36 rfl rfl ?_
        refine g_dup2_11 (pc' := 38) dX7_pour_37 rfl rfl rfl ?_
        refine g_iald (pc' := 39) dX7_pour_38 rfl ht.f (by omega) (by omega) (fun v12 ev12 rv12 => ?_)
        have gv12 : v12 = F g.toNat := ev12.trans (congrFun tF _)
        have bv12 := ct.2.2.2 g.toNat (by omega)
        have cv12 := bv12.1
        clear bv12
        refine g_iload_n (pc' := 40) 3 dX7_pour_39 rfl rfl ?_
        refine g_iadd (pc' := 41) dX7_pour_40 rfl ?_
        refine g_iast (pc' := 42) dX7_pour_41 rfl ht.f (by omega) (by omega) ⟨by omega, by omega⟩ (fun M13 hM13 => ?_)
        have fM13 : Fr (inT t) M M13 := Fr.wr Fr.rf hM13 (by unfold inT; omega)
        have t2_M13 : M13 t 2 = (a : Int) := (show M13 t 2 = M t 2 by rw [hM13]; exact mu_ne _ _ (fun z => absurd z (by omega))).trans t2
        have t3_M13 : M13 t 3 = (b : Int) := (show M13 t 3 = M t 3 by rw [hM13]; exact mu_ne _ _ (fun z => absurd z (by omega))).trans t3
        have t5_M13 : M13 t 5 = n := (show M13 t 5 = M t 5 by rw [hM13]; exact mu_ne _ _ (fun z => absurd z (by omega))).trans t5
        have t4_M13 : M13 t 4 = L := (show M13 t 4 = M t 4 by rw [hM13]; exact mu_ne _ _ (fun z => absurd z (by omega))).trans t4
        have ta_M13 : M13 a = P := (show M13 a = M a by rw [hM13]; exact mu_cell _ _ (by omega)).trans tA
        have tF_M13 : M13 (t + 2) = ms F g.toNat (v12 + w) := by rw [hM13, mu_is, tF]
        have tZ_M13 : M13 (t + 1) = Z := (show M13 (t + 1) = M (t + 1) by rw [hM13]; exact mu_cell _ _ (by omega)).trans tZ
        refine g_aload_n (pc' := 43) 0 dX7_pour_42 rfl rfl ?_
        refine g_getD (pc' := 46) dX7_pour_43 rfl f_X7_18 ht.o rfl ?_
        rw [t2_M13, Int.toNat_natCast]
        refine g_iload_n (pc' := 47) 1 dX7_pour_46 rfl rfl ?_
        refine g_iconst (pc' := 48) dX7_pour_47 rfl ?_
        refine g_imul (pc' := 49) dX7_pour_48 rfl ?_
        refine g_iload_n (pc' := 50) 2 dX7_pour_49 rfl rfl ?_
        refine g_iadd (pc' := 51) dX7_pour_50 rfl ?_
        refine g_dup2_11 (pc' := 52) dX7_pour_51 rfl rfl rfl ?_
        refine g_lald (pc' := 53) dX7_pour_52 rfl (ht.ab haa) (by omega) (by omega) (fun v14 ev14 rv14 => ?_)
        have gv14 : v14 = P ((g * 4) + s).toNat := ev14.trans (congrFun ta_M13 _)
        refine g_iload_n (pc' := 54) 3 dX7_pour_53 rfl rfl ?_
        refine g_i2l (pc' := 55) hw dX7_pour_54 rfl ?_
        refine g_aload_n (pc' := 56) 0 dX7_pour_55 rfl rfl ?_
        refine g_getL (pc' := 59) dX7_pour_56 rfl f_X7_25 ht.o rfl (fun v15 ev15 rv15 => ?_)
        have gv15 : v15 = L := ev15.trans t4_M13
        refine g_lmul (pc' := 60) dX7_pour_59 rfl ?_
        have pb := ct.p0 (g := g) (s := s) (by omega) (by omega)
        have mb := mul60 (f := w) (L := v15) (B := 100000000000000) (by omega) (by omega) (by omega) (by omega)
        refine g_ladd (pc' := 61) dX7_pour_60 rfl ?_
        refine g_last (pc' := 62) dX7_pour_61 rfl (ht.ab haa) (by omega) (by omega) ⟨by omega, by omega⟩ (fun M16 hM16 => ?_)
        have fM16 : Fr (inT t) M M16 := Fr.wr fM13 hM16 (by unfold inT; omega)
        have t2_M16 : M16 t 2 = (a : Int) := (show M16 t 2 = M13 t 2 by rw [hM16]; exact mu_ne _ _ (fun z => absurd z (by omega))).trans t2_M13
        have t3_M16 : M16 t 3 = (b : Int) := (show M16 t 3 = M13 t 3 by rw [hM16]; exact mu_ne _ _ (fun z => absurd z (by omega))).trans t3_M13
        have t5_M16 : M16 t 5 = n := (show M16 t 5 = M13 t 5 by rw [hM16]; exact mu_ne _ _ (fun z => absurd z (by omega))).trans t5_M13
        have t4_M16 : M16 t 4 = L := (show M16 t 4 = M13 t 4 by rw [hM16]; exact mu_ne _ _ (fun z => absurd z (by omega))).trans t4_M13
        have ta_M16 : M16 a = ms P (((g * 4) + s).toNat) (v14 + (w * v15)) := by rw [hM16, mu_is, ta_M13]
        have tF_M16 : M16 (t + 2) = ms F g.toNat (v12 + w) := (show M16 (t + 2) = M13 (t + 2) by rw [hM16]; exact mu_cell _ _ (by omega)).trans tF_M13
        have tZ_M16 : M16 (t + 1) = Z := (show M16 (t + 1) = M13 (t + 1) by rw [hM16]; exact mu_cell _ _ (by omega)).trans tZ_M13
        refine g_iconst (pc' := 63) dX7_pour_62 rfl ?_
        refine g_ireturn dX7_pour_63 ?_
        exact ⟨(TV.ok (⟨⟨t2_M16, t3_M16⟩, hab, t5_M16, ta_M16, t4_M16, tF_M16, tZ_M16⟩ : TV M16 t a b n (ms P (((g * 4) + s).toNat) (v14 + (w * v15))) L (ms F g.toNat (v12 + w)) Z) ctn), fM16, t5_M16.trans t5.symm, (ms P (((g * 4) + s).toNat) (v14 + (w * v15))), (ms F g.toNat (v12 + w)), (⟨⟨t2_M16, t3_M16⟩, hab, t5_M16, ta_M16, t4_M16, tF_M16, tZ_M16⟩ : TV M16 t a b n (ms P (((g * 4) + s).toNat) (v14 + (w * v15))) L (ms F g.toNat (v12 + w)) Z), ⟨fun z => absurd (by omega) z, fun _ => ⟨rfl, by rw [show v14 = P (g * 4 + s).toNat by omega, show v15 = L by omega], by congr 1; omega⟩⟩⟩
      · refine g_bipush (pc' := 31) (v := (-3)) dX7_pour_29 rfl (by decide) ?_
        refine g_ireturn dX7_pour_31 ?_
        exact ⟨(TV.ok tv0 ctn), Fr.rf, t5.trans t5.symm, P, F, tv0, ⟨fun _ => ⟨rfl, rfl, rfl⟩, fun z => absurd z (by omega)⟩⟩
set_option maxHeartbeats 4000000 in
set_option maxRecDepth 100000 in
theorem l_X7_clear_x_18 (X : Cx) (M : Mm) (t : Nat) (ht : isT t) (ho : okT M t) (g : Int) (hg : inI g) (a b : Nat) (n : Int) (P : Nat → Int) (L : Int) (F Z : Nat → Int) (tv : TV M t a b n P L F Z) (ctn : 0 ≤ n ∧ n ≤ 6) (pg : 0 ≤ g ∧ g < n) : ∀ (kk : Nat) (s : Int) (M1 : Mm) (h0 : 0 ≤ s) (h1 : s ≤ 4) (f1 : Fr (inT t) M M1) (u2 : M1 t 2 = (a : Int)) (u3 : M1 t 3 = (b : Int)) (u5 : M1 t 5 = n) (u4 : M1 t 4 = L) (uZ : M1 (t + 1) = Z) (uF : M1 (t + 2) = ms F g.toNat 0) (cl : CLp P (M1 a) g s), (4 - s).toNat = kk → G X 1 RX7 cX7_clear 3 none (Qv (fun M1 => okT M1 t ∧ Fr (inT t) M M1 ∧ M1 t 5 = M t 5 ∧ (∃ P1 F1 : Nat → Int, TV M1 t a b n P1 L F1 Z ∧ CLR P P1 F F1 g))) 18 [(2, vi s), (0, vr X t), (1, vi g)] [] M1 := by
  intro kk
  induction kk using Nat.strongRecOn with
  | ind kk ih =>
    intro s M1 h0 h1 f1 u2 u3 u5 u4 uZ uF cl hmes
    have tv0 := tv
    have tv1 := tv
    obtain ⟨⟨t2, t3⟩, hab, t5, tA, t4, tF, tZ⟩ := tv1
    have haa : a = t + 3 ∨ a = t + 4 := by omega
    have hbb : b = t + 3 ∨ b = t + 4 := by omega
    refine g_iload_n (pc' := 19) 0 dX7_clear_18 rfl rfl ?_
    refine g_iconst (pc' := 20) dX7_clear_19 rfl ?_
    refine g_ic_ge (pc' := 23) (tgt := 40) ⟨by omega, by omega⟩ (by decide) dX7_clear_20 rfl rfl (fun c1 => ?_) (fun c1 => ?_)
    · refine g_vreturn dX7_clear_40 ?_
      exact ⟨(TV.ok (⟨⟨u2, u3⟩, hab, u5, (rfl), u4, uF, uZ⟩ : TV M1 t a b n (M1 a) L (ms F g.toNat 0) Z) ctn), f1, u5.trans t5.symm, M1 a, ms F g.toNat 0, (⟨⟨u2, u3⟩, hab, u5, (rfl), u4, uF, uZ⟩ : TV M1 t a b n (M1 a) L (ms F g.toNat 0) Z), cl.e (by omega) rfl⟩
    · refine g_aload_n (pc' := 24) 1 dX7_clear_23 rfl rfl ?_
      refine g_getD (pc' := 27) dX7_clear_24 rfl f_X7_18 ht.o rfl ?_
      rw [u2, Int.toNat_natCast]
      refine g_iload_n (pc' := 28) 2 dX7_clear_27 rfl rfl ?_
      refine g_iconst (pc' := 29) dX7_clear_28 rfl ?_
      refine g_imul (pc' := 30) dX7_clear_29 rfl ?_
      refine g_iload_n (pc' := 31) 0 dX7_clear_30 rfl rfl ?_
      refine g_iadd (pc' := 32) dX7_clear_31 rfl ?_
      refine g_lconst (pc' := 33) (v := 0) dX7_clear_32 rfl (by decide) ?_
      refine g_last (pc' := 34) dX7_clear_33 rfl (ht.ab haa) (by omega) (by omega) (by decide) (fun M2 hM2 => ?_)
      have fM2 : Fr (inT t) M M2 := Fr.wr f1 hM2 (by unfold inT; omega)
      have t2_M2 : M2 t 2 = (a : Int) := (show M2 t 2 = M1 t 2 by rw [hM2]; exact mu_ne _ _ (fun z => absurd z (by omega))).trans u2
      have t3_M2 : M2 t 3 = (b : Int) := (show M2 t 3 = M1 t 3 by rw [hM2]; exact mu_ne _ _ (fun z => absurd z (by omega))).trans u3
      have t5_M2 : M2 t 5 = n := (show M2 t 5 = M1 t 5 by rw [hM2]; exact mu_ne _ _ (fun z => absurd z (by omega))).trans u5
      have t4_M2 : M2 t 4 = L := (show M2 t 4 = M1 t 4 by rw [hM2]; exact mu_ne _ _ (fun z => absurd z (by omega))).trans u4
      have tZ_M2 : M2 (t + 1) = Z := (show M2 (t + 1) = M1 (t + 1) by rw [hM2]; exact mu_cell _ _ (by omega)).trans uZ
      have tF_M2 : M2 (t + 2) = ms F g.toNat 0 := (show M2 (t + 2) = M1 (t + 2) by rw [hM2]; exact mu_cell _ _ (by omega)).trans uF
      have ta_M2 : M2 a = ms (M1 a) (((g * 4) + s).toNat) 0 := by rw [hM2, mu_is]
      have clM2 := cl.s (P2 := M2 a) (by omega) (show ((((g * 4) + s).toNat : Nat) : Int) = g * 4 + s by omega) (by rw [hM2, mu_is])
      refine g_iinc (pc' := 37) (L' := [(2, vi (s + 1)), (0, vr X t), (1, vi g)]) 0 dX7_clear_34 rfl rfl (by decide) rfl ?_
      refine g_goto (tgt := 18) dX7_clear_37 rfl ?_
      refine g_sub [0, 1, 2] rfl ?_
      exact ih _ (by omega) (s + 1) M2 (by omega) (by omega) fM2 t2_M2 t3_M2 t5_M2 t4_M2 tZ_M2 tF_M2 clM2 rfl
set_option maxHeartbeats 4000000 in
set_option maxRecDepth 100000 in
theorem c_X7_clear_x (X : Cx) (M : Mm) (t : Nat) (ht : isT t) (ho : okT M t) (g : Int) (hg : inI g) (a b : Nat) (n : Int) (P : Nat → Int) (L : Int) (F Z : Nat → Int) (tv : TV M t a b n P L F Z) (ctn : 0 ≤ n ∧ n ≤ 6) (pg : 0 ≤ g ∧ g < n) : Con X 1 yX7_clear cX7_clear 3 none [vr X t, vi g] M (Qv (fun M1 => okT M1 t ∧ Fr (inT t) M M1 ∧ M1 t 5 = M t 5 ∧ (∃ P1 F1 : Nat → Int, TV M1 t a b n P1 L F1 Z ∧ CLR P P1 F F1 g))) := by
  refine Con.ofG rfl (Nat.le_of_ble_eq_true rfl) ?_
  show G X 1 RX7 cX7_clear 3 none (Qv (fun M1 => okT M1 t ∧ Fr (inT t) M M1 ∧ M1 t 5 = M t 5 ∧ (∃ P1 F1 : Nat → Int, TV M1 t a b n P1 L F1 Z ∧ CLR P P1 F F1 g))) 0 [(0, vr X t), (1, vi g)] [] M
  have tv0 := tv
  have tv1 := tv
  obtain ⟨⟨t2, t3⟩, hab, t5, tA, t4, tF, tZ⟩ := tv1
  have haa : a = t + 3 ∨ a = t + 4 := by omega
  have hbb : b = t + 3 ∨ b = t + 4 := by omega
  refine g_aload_n (pc' := 1) 0 dX7_clear_0 rfl rfl ?_
  refine g_iload_n (pc' := 2) 1 dX7_clear_1 rfl rfl ?_
  refine g_callVip (pc' := 5) (As := [vi g]) (b := t) (S := []) dX7_clear_2 rfl m_X7_33 w_X7_has (c_X7_has X M t ht (TV.ok tv0 ctn) g hg) rfl ⟨_, _, _, ht.o, rfl, rfl⟩ (by decide) (by decide) rfl (Nat.le_of_ble_eq_true rfl) (fun z2 q1 => ?_)
  refine g_if_ne (pc' := 8) (tgt := 9) ⟨by omega, by omega⟩ dX7_clear_5 rfl rfl (fun c3 => ?_) (fun c3 => ?_)
  · replace q1 := q1.resolve_right (fun h => c3 h.1)
    refine g_aload_n (pc' := 10) 0 dX7_clear_9 rfl rfl ?_
    refine g_getR (pc' := 13) dX7_clear_10 rfl f_X7_15 ht.o rfl ?_
    refine g_iload_n (pc' := 14) 1 dX7_clear_13 rfl rfl ?_
    refine g_iconst (pc' := 15) dX7_clear_14 rfl ?_
    refine g_iast (pc' := 16) dX7_clear_15 rfl ht.f (by omega) (by omega) (by decide) (fun M4 hM4 => ?_)
    have fM4 : Fr (inT t) M M4 := Fr.wr Fr.rf hM4 (by unfold inT; omega)
    have t2_M4 : M4 t 2 = (a : Int) := (show M4 t 2 = M t 2 by rw [hM4]; exact mu_ne _ _ (fun z => absurd z (by omega))).trans t2
    have t3_M4 : M4 t 3 = (b : Int) := (show M4 t 3 = M t 3 by rw [hM4]; exact mu_ne _ _ (fun z => absurd z (by omega))).trans t3
    have t5_M4 : M4 t 5 = n := (show M4 t 5 = M t 5 by rw [hM4]; exact mu_ne _ _ (fun z => absurd z (by omega))).trans t5
    have t4_M4 : M4 t 4 = L := (show M4 t 4 = M t 4 by rw [hM4]; exact mu_ne _ _ (fun z => absurd z (by omega))).trans t4
    have ta_M4 : M4 a = P := (show M4 a = M a by rw [hM4]; exact mu_cell _ _ (by omega)).trans tA
    have tF_M4 : M4 (t + 2) = ms F g.toNat 0 := by rw [hM4, mu_is, tF]
    have tZ_M4 : M4 (t + 1) = Z := (show M4 (t + 1) = M (t + 1) by rw [hM4]; exact mu_cell _ _ (by omega)).trans tZ
    refine g_iconst (pc' := 17) dX7_clear_16 rfl ?_
    refine g_istore_n (pc' := 18) (i := 2) (L' := [(2, vi 0), (0, vr X t), (1, vi g)]) dX7_clear_17 rfl rfl (by decide) rfl ?_
    refine g_sub [0, 1, 2] rfl ?_
    exact l_X7_clear_x_18 X M t ht ho g hg a b n P L F Z tv ctn pg _ 0 M4 (by omega) (by omega) fM4 t2_M4 t3_M4 t5_M4 t4_M4 tZ_M4 tF_M4 (by rw [ta_M4]; exact CLp.z P g) rfl
  · replace q1 := q1.resolve_left (fun h => absurd (c3.symm.trans h.1) (by decide))
    refine g_vreturn dX7_clear_8 ?_
    exact False.elim (by omega)
set_option maxHeartbeats 4000000 in
set_option maxRecDepth 100000 in
theorem c_X7_add_x (X : Cx) (M : Mm) (t : Nat) (ht : isT t) (ho : okT M t) (w : Int) (hw : inI w) (a b : Nat) (n : Int) (P : Nat → Int) (L : Int) (F Z : Nat → Int) (tv : TV M t a b n P L F Z) (ctn : 0 ≤ n ∧ n ≤ 6) : Con X 2 yX7_add cX7_add 2 (some .int) [vr X t, vi w] M (Qi (fun r M1 => okT M1 t ∧ Fr (inT t) M M1 ∧ (M t 5 = 6 → M1 t 5 = 6) ∧ (M t 5 < 6 → M1 t 5 = M t 5 + 1) ∧ ((n = 6 → r = -5 ∧ TV M1 t a b n P L F Z) ∧ (n < 6 → r = n ∧ ∃ P1 F1 : Nat → Int, TV M1 t a b (n + 1) P1 L F1 (ms Z n.toNat w) ∧ CLR P P1 F F1 n)))) := by
  refine Con.ofG rfl (Nat.le_of_ble_eq_true rfl) ?_
  show G X 2 RX7 cX7_add 2 (some .int) (Qi (fun r M1 => okT M1 t ∧ Fr (inT t) M M1 ∧ (M t 5 = 6 → M1 t 5 = 6) ∧ (M t 5 < 6 → M1 t 5 = M t 5 + 1) ∧ ((n = 6 → r = -5 ∧ TV M1 t a b n P L F Z) ∧ (n < 6 → r = n ∧ ∃ P1 F1 : Nat → Int, TV M1 t a b (n + 1) P1 L F1 (ms Z n.toNat w) ∧ CLR P P1 F F1 n)))) 0 [(0, vr X t), (1, vi w)] [] M
  have tv0 := tv
  have tv1 := tv
  obtain ⟨⟨t2, t3⟩, hab, t5, tA, t4, tF, tZ⟩ := tv1
  have haa : a = t + 3 ∨ a = t + 4 := by omega
  have hbb : b = t + 3 ∨ b = t + 4 := by omega
  refine g_aload_n (pc' := 1) 0 dX7_add_0 rfl rfl ?_
  refine g_getI (pc' := 4) dX7_add_1 rfl f_X7_29 ht.o rfl (fun v1 ev1 rv1 => ?_)
  have gv1 : v1 = n := ev1.trans t5
  refine g_bipush (pc' := 6) (v := 6) dX7_add_4 rfl (by decide) ?_
  refine g_ic_lt (pc' := 9) (tgt := 12) rv1 (by decide) dX7_add_6 rfl rfl (fun c2 => ?_) (fun c2 => ?_)
  · refine g_aload_n (pc' := 13) 0 dX7_add_12 rfl rfl ?_
    refine g_getR (pc' := 16) dX7_add_13 rfl f_X7_9 ht.o rfl ?_
    refine g_aload_n (pc' := 17) 0 dX7_add_16 rfl rfl ?_
    refine g_getI (pc' := 20) dX7_add_17 rfl f_X7_29 ht.o rfl (fun v3 ev3 rv3 => ?_)
    obtain rfl : v1 = v3 := ev1.trans ev3.symm
    refine g_iload_n (pc' := 21) 1 dX7_add_20 rfl rfl ?_
    refine g_iast (pc' := 22) dX7_add_21 rfl ht.s (by omega) (by omega) hw (fun M4 hM4 => ?_)
    have fM4 : Fr (inT t) M M4 := Fr.wr Fr.rf hM4 (by unfold inT; omega)
    have t2_M4 : M4 t 2 = (a : Int) := (show M4 t 2 = M t 2 by rw [hM4]; exact mu_ne _ _ (fun z => absurd z (by omega))).trans t2
    have t3_M4 : M4 t 3 = (b : Int) := (show M4 t 3 = M t 3 by rw [hM4]; exact mu_ne _ _ (fun z => absurd z (by omega))).trans t3
    have t5_M4 : M4 t 5 = n := (show M4 t 5 = M t 5 by rw [hM4]; exact mu_ne _ _ (fun z => absurd z (by omega))).trans t5
    have t4_M4 : M4 t 4 = L := (show M4 t 4 = M t 4 by rw [hM4]; exact mu_ne _ _ (fun z => absurd z (by omega))).trans t4
    have ta_M4 : M4 a = P := (show M4 a = M a by rw [hM4]; exact mu_cell _ _ (by omega)).trans tA
    have tF_M4 : M4 (t + 2) = F := (show M4 (t + 2) = M (t + 2) by rw [hM4]; exact mu_cell _ _ (by omega)).trans tF
    have tZ_M4 : M4 (t + 1) = ms Z v1.toNat w := by rw [hM4, mu_is, tZ]
    refine g_aload_n (pc' := 23) 0 dX7_add_22 rfl rfl ?_
    refine g_dup (pc' := 24) dX7_add_23 rfl rfl ?_
    refine g_getI (pc' := 27) dX7_add_24 rfl f_X7_29 ht.o rfl (fun v5 ev5 rv5 => ?_)
    have gv5 : v5 = n := ev5.trans t5_M4
    refine g_iconst (pc' := 28) dX7_add_27 rfl ?_
    refine g_iadd (pc' := 29) dX7_add_28 rfl ?_
    refine g_putI (pc' := 32) dX7_add_29 rfl p_X7_29 ht.o rfl ⟨by omega, by omega⟩ (fun M6 hM6 => ?_)
    have fM6 : Fr (inT t) M M6 := Fr.wr fM4 hM6 (by unfold inT; omega)
    have t2_M6 : M6 t 2 = (a : Int) := (show M6 t 2 = M4 t 2 by rw [hM6]; exact mu_ne _ _ (fun _ => by decide)).trans t2_M4
    have t3_M6 : M6 t 3 = (b : Int) := (show M6 t 3 = M4 t 3 by rw [hM6]; exact mu_ne _ _ (fun _ => by decide)).trans t3_M4
    have t5_M6 : M6 t 5 = v5 + 1 := by rw [hM6]; exact mu_at _ _ _ _
    have t4_M6 : M6 t 4 = L := (show M6 t 4 = M4 t 4 by rw [hM6]; exact mu_ne _ _ (fun _ => by decide)).trans t4_M4
    have ta_M6 : M6 a = P := (show M6 a = M4 a by rw [hM6]; exact mu_cell _ _ (by omega)).trans ta_M4
    have tF_M6 : M6 (t + 2) = F := (show M6 (t + 2) = M4 (t + 2) by rw [hM6]; exact mu_cell _ _ (by omega)).trans tF_M4
    have tZ_M6 : M6 (t + 1) = ms Z v1.toNat w := (show M6 (t + 1) = M4 (t + 1) by rw [hM6]; exact mu_cell _ _ (by omega)).trans tZ_M4
    refine g_aload_n (pc' := 33) 0 dX7_add_32 rfl rfl ?_
    refine g_aload_n (pc' := 34) 0 dX7_add_33 rfl rfl ?_
    refine g_getI (pc' := 37) dX7_add_34 rfl f_X7_29 ht.o rfl (fun v7 ev7 rv7 => ?_)
    have gv7 : v7 = v5 + 1 := ev7.trans t5_M6
    refine g_iconst (pc' := 38) dX7_add_37 rfl ?_
    refine g_isub (pc' := 39) dX7_add_38 rfl ?_
    refine g_callVv (pc' := 42) (As := [vi (v7 - 1)]) (b := t) (S := []) dX7_add_39 rfl m_X7_53 w_X7_clear (c_X7_clear_x X M6 t ht (TV.ok (⟨⟨t2_M6, t3_M6⟩, hab, t5_M6, ta_M6, t4_M6, tF_M6, tZ_M6⟩ : TV M6 t a b (v5 + 1) P L F (ms Z v1.toNat w)) (by omega)) (v7 - 1) ⟨by omega, by omega⟩ a b (v5 + 1) P L F (ms Z v1.toNat w) (⟨⟨t2_M6, t3_M6⟩, hab, t5_M6, ta_M6, t4_M6, tF_M6, tZ_M6⟩ : TV M6 t a b (v5 + 1) P L F (ms Z v1.toNat w)) (by omega) (by omega)) rfl ⟨_, _, _, ht.o, rfl, rfl⟩ (by decide) (by decide) rfl (Nat.le_of_ble_eq_true rfl) (fun M9 q8 => ?_)
    obtain ⟨kM9, fM90, gM90, pM9⟩ := q8
    have fM9 : Fr (inT t) M M9 := Fr.tr fM6 fM90 (fun _ z => z)
    obtain ⟨P1, F1, ⟨⟨t2_M9, t3_M9⟩, -, t5_M9, ta_M9, t4_M9, tF_M9, tZ_M9⟩, hcl⟩ := pM9
    refine g_aload_n (pc' := 43) 0 dX7_add_42 rfl rfl ?_
    refine g_getI (pc' := 46) dX7_add_43 rfl f_X7_29 ht.o rfl (fun v10 ev10 rv10 => ?_)
    have gv10 : v10 = v5 + 1 := ev10.trans t5_M9
    refine g_iconst (pc' := 47) dX7_add_46 rfl ?_
    refine g_isub (pc' := 48) dX7_add_47 rfl ?_
    refine g_ireturn dX7_add_48 ?_
    have en : v5 + 1 = n + 1 := by omega
    have tvq : TV M9 t a b (n + 1) P1 L F1 (ms Z n.toNat w) := by
      have q := (⟨⟨t2_M9, t3_M9⟩, hab, t5_M9, ta_M9, t4_M9, tF_M9, tZ_M9⟩ : TV M9 t a b (v5 + 1) P1 L F1 (ms Z v1.toNat w))
      rw [en] at q
      rw [show ms Z v1.toNat w = ms Z n.toNat w by congr 1; omega] at q
      exact q
    exact ⟨(TV.ok (⟨⟨t2_M9, t3_M9⟩, hab, t5_M9, ta_M9, t4_M9, tF_M9, tZ_M9⟩ : TV M9 t a b (v5 + 1) P1 L F1 (ms Z v1.toNat w)) (by omega)), fM9, fun z => by omega, fun z => by omega, fun z => by omega, fun _ => ⟨by omega, P1, F1, tvq, (show (v7 - 1) = n by omega) ▸ hcl⟩⟩
  · refine g_bipush (pc' := 11) (v := (-5)) dX7_add_9 rfl (by decide) ?_
    refine g_ireturn dX7_add_11 ?_
    exact ⟨ho, Fr.rf, fun z => by omega, fun z => by omega, fun _ => ⟨rfl, tv0⟩, fun z => absurd z (by omega)⟩
set_option maxHeartbeats 4000000 in
set_option maxRecDepth 100000 in
theorem c_X7_copyFrom_x (X : Cx) (M : Mm) (t : Nat) (ht : isT t) (ho : okT M t) (u : Nat) (hu : isT u) (hou : okT M u) (hne : u ≠ t) (hap : ¬ inT t u) (a b : Nat) (n0 : Int) (P0 : Nat → Int) (L0 : Int) (F0 Z0 : Nat → Int) (tv : TV M t a b n0 P0 L0 F0 Z0) (c d : Nat) (n : Int) (P : Nat → Int) (L : Int) (F Z : Nat → Int) (tu : TV M u c d n P L F Z) (cun : 0 ≤ n ∧ n ≤ 6) : Con X 1 yX7_copyFrom cX7_copyFrom 2 none [vr X t, vr X u] M (Qv (fun M1 => okT M1 t ∧ Fr (inT t) M M1 ∧ M1 t 5 = M u 5 ∧ (∃ P1 F1 Z1 : Nat → Int, TV M1 t a b n P1 L F1 Z1 ∧ (∀ j : Nat, j < 24 → P1 j = P j) ∧ (∀ j : Nat, j < 6 → F1 j = F j) ∧ (∀ j : Nat, j < 6 → Z1 j = Z j)))) := by
  refine Con.ofG rfl (Nat.le_of_ble_eq_true rfl) ?_
  show G X 1 RX7 cX7_copyFrom 2 none (Qv (fun M1 => okT M1 t ∧ Fr (inT t) M M1 ∧ M1 t 5 = M u 5 ∧ (∃ P1 F1 Z1 : Nat → Int, TV M1 t a b n P1 L F1 Z1 ∧ (∀ j : Nat, j < 24 → P1 j = P j) ∧ (∀ j : Nat, j < 6 → F1 j = F j) ∧ (∀ j : Nat, j < 6 → Z1 j = Z j)))) 0 [(0, vr X t), (1, vr X u)] [] M
  have tv0 := tv
  have tv1 := tv
  obtain ⟨⟨t2, t3⟩, hab, t5, tA, t4, tF, tZ⟩ := tv1
  have tu1 := tu
  obtain ⟨⟨u2, u3⟩, hcd, u5, uA, u4, uF, uZ⟩ := tu1
  have haa : a = t + 3 ∨ a = t + 4 := by omega
  have hcc : c = u + 3 ∨ c = u + 4 := by omega
  have apx : u + 5 ≤ t ∨ t + 5 ≤ u := isT.far ht hu hne
  refine g_aload_n (pc' := 1) 1 dX7_copyFrom_0 rfl rfl ?_
  refine g_getR (pc' := 4) dX7_copyFrom_1 rfl f_X7_9 hu.o rfl ?_
  refine g_iconst (pc' := 5) dX7_copyFrom_4 rfl ?_
  refine g_aload_n (pc' := 6) 0 dX7_copyFrom_5 rfl rfl ?_
  refine g_getR (pc' := 9) dX7_copyFrom_6 rfl f_X7_9 ht.o rfl ?_
  refine g_iconst (pc' := 10) dX7_copyFrom_9 rfl ?_
  refine g_bipush (pc' := 12) (v := 6) dX7_copyFrom_10 rfl (by decide) ?_
  refine g_copyI (pc' := 15) (sp := 0) (dp := 0) (n := 6) dX7_copyFrom_12 rfl m_X7_92 mn_copy ms_copy mi_Sys hu.s ht.s (by decide) (by decide) (by decide) (Nat.le_of_ble_eq_true rfl) (fun M1 hM1 => ?_)
  have fM1 : Fr (inT t) M M1 := Fr.cp Fr.rf hM1 (by unfold inT; omega)
  have t2_M1 : M1 t 2 = (a : Int) := (show M1 t 2 = M t 2 by rw [hM1, mcp_cell _ (by omega)]).trans t2
  have t3_M1 : M1 t 3 = (b : Int) := (show M1 t 3 = M t 3 by rw [hM1, mcp_cell _ (by omega)]).trans t3
  have t5_M1 : M1 t 5 = n0 := (show M1 t 5 = M t 5 by rw [hM1, mcp_cell _ (by omega)]).trans t5
  have t4_M1 : M1 t 4 = L0 := (show M1 t 4 = M t 4 by rw [hM1, mcp_cell _ (by omega)]).trans t4
  have u2_M1 : M1 u 2 = (c : Int) := (congrFun (show M1 u = M u by rw [hM1, mcp_cell _ (by omega)]) 2).trans u2
  have u5_M1 : M1 u 5 = n := (congrFun (show M1 u = M u by rw [hM1, mcp_cell _ (by omega)]) 5).trans u5
  have u4_M1 : M1 u 4 = L := (congrFun (show M1 u = M u by rw [hM1, mcp_cell _ (by omega)]) 4).trans u4
  have uc_M1 : M1 c = P := (show M1 c = M c by rw [hM1, mcp_cell _ (by omega)]).trans uA
  have uuF_M1 : M1 (u + 2) = F := (show M1 (u + 2) = M (u + 2) by rw [hM1, mcp_cell _ (by omega)]).trans uF
  have uuZ_M1 : M1 (u + 1) = Z := (show M1 (u + 1) = M (u + 1) by rw [hM1, mcp_cell _ (by omega)]).trans uZ
  have yZ_M1 : ∀ j : Nat, j < 6 → M1 (t + 1) j = Z j := fun j hj => by rw [hM1, mcp_in _ hj, uZ]
  refine g_aload_n (pc' := 16) 1 dX7_copyFrom_15 rfl rfl ?_
  refine g_getR (pc' := 19) dX7_copyFrom_16 rfl f_X7_15 hu.o rfl ?_
  refine g_iconst (pc' := 20) dX7_copyFrom_19 rfl ?_
  refine g_aload_n (pc' := 21) 0 dX7_copyFrom_20 rfl rfl ?_
  refine g_getR (pc' := 24) dX7_copyFrom_21 rfl f_X7_15 ht.o rfl ?_
  refine g_iconst (pc' := 25) dX7_copyFrom_24 rfl ?_
  refine g_bipush (pc' := 27) (v := 6) dX7_copyFrom_25 rfl (by decide) ?_
  refine g_copyI (pc' := 30) (sp := 0) (dp := 0) (n := 6) dX7_copyFrom_27 rfl m_X7_92 mn_copy ms_copy mi_Sys hu.f ht.f (by decide) (by decide) (by decide) (Nat.le_of_ble_eq_true rfl) (fun M2 hM2 => ?_)
  have fM2 : Fr (inT t) M M2 := Fr.cp fM1 hM2 (by unfold inT; omega)
  have t2_M2 : M2 t 2 = (a : Int) := (show M2 t 2 = M1 t 2 by rw [hM2, mcp_cell _ (by omega)]).trans t2_M1
  have t3_M2 : M2 t 3 = (b : Int) := (show M2 t 3 = M1 t 3 by rw [hM2, mcp_cell _ (by omega)]).trans t3_M1
  have t5_M2 : M2 t 5 = n0 := (show M2 t 5 = M1 t 5 by rw [hM2, mcp_cell _ (by omega)]).trans t5_M1
  have t4_M2 : M2 t 4 = L0 := (show M2 t 4 = M1 t 4 by rw [hM2, mcp_cell _ (by omega)]).trans t4_M1
  have u2_M2 : M2 u 2 = (c : Int) := (congrFun (show M2 u = M1 u by rw [hM2, mcp_cell _ (by omega)]) 2).trans u2_M1
  have u5_M2 : M2 u 5 = n := (congrFun (show M2 u = M1 u by rw [hM2, mcp_cell _ (by omega)]) 5).trans u5_M1
  have u4_M2 : M2 u 4 = L := (congrFun (show M2 u = M1 u by rw [hM2, mcp_cell _ (by omega)]) 4).trans u4_M1
  have uc_M2 : M2 c = P := (show M2 c = M1 c by rw [hM2, mcp_cell _ (by omega)]).trans uc_M1
  have uuF_M2 : M2 (u + 2) = F := (show M2 (u + 2) = M1 (u + 2) by rw [hM2, mcp_cell _ (by omega)]).trans uuF_M1
  have uuZ_M2 : M2 (u + 1) = Z := (show M2 (u + 1) = M1 (u + 1) by rw [hM2, mcp_cell _ (by omega)]).trans uuZ_M1
  have yZ_M2 : ∀ j : Nat, j < 6 → M2 (t + 1) j = Z j := fun j hj => (congrFun (show M2 (t + 1) = M1 (t + 1) by rw [hM2, mcp_cell _ (by omega)]) j).trans (yZ_M1 j hj)
  have yF_M2 : ∀ j : Nat, j < 6 → M2 (t + 2) j = F j := fun j hj => by rw [hM2, mcp_in _ hj, uuF_M1]
  refine g_aload_n (pc' := 31) 1 dX7_copyFrom_30 rfl rfl ?_
  refine g_getD (pc' := 34) dX7_copyFrom_31 rfl f_X7_18 hu.o rfl ?_
  rw [u2_M2, Int.toNat_natCast]
  refine g_iconst (pc' := 35) dX7_copyFrom_34 rfl ?_
  refine g_aload_n (pc' := 36) 0 dX7_copyFrom_35 rfl rfl ?_
  refine g_getD (pc' := 39) dX7_copyFrom_36 rfl f_X7_18 ht.o rfl ?_
  rw [t2_M2, Int.toNat_natCast]
  refine g_iconst (pc' := 40) dX7_copyFrom_39 rfl ?_
  refine g_bipush (pc' := 42) (v := 24) dX7_copyFrom_40 rfl (by decide) ?_
  refine g_copyL (pc' := 45) (sp := 0) (dp := 0) (n := 24) dX7_copyFrom_42 rfl m_X7_92 mn_copy ms_copy mi_Sys (hu.ab hcc) (ht.ab haa) (by decide) (by decide) (by decide) (Nat.le_of_ble_eq_true rfl) (fun M3 hM3 => ?_)
  have fM3 : Fr (inT t) M M3 := Fr.cp fM2 hM3 (by unfold inT; omega)
  have t2_M3 : M3 t 2 = (a : Int) := (show M3 t 2 = M2 t 2 by rw [hM3, mcp_cell _ (by omega)]).trans t2_M2
  have t3_M3 : M3 t 3 = (b : Int) := (show M3 t 3 = M2 t 3 by rw [hM3, mcp_cell _ (by omega)]).trans t3_M2
  have t5_M3 : M3 t 5 = n0 := (show M3 t 5 = M2 t 5 by rw [hM3, mcp_cell _ (by omega)]).trans t5_M2
  have t4_M3 : M3 t 4 = L0 := (show M3 t 4 = M2 t 4 by rw [hM3, mcp_cell _ (by omega)]).trans t4_M2
  have u2_M3 : M3 u 2 = (c : Int) := (congrFun (show M3 u = M2 u by rw [hM3, mcp_cell _ (by omega)]) 2).trans u2_M2
  have u5_M3 : M3 u 5 = n := (congrFun (show M3 u = M2 u by rw [hM3, mcp_cell _ (by omega)]) 5).trans u5_M2
  have u4_M3 : M3 u 4 = L := (congrFun (show M3 u = M2 u by rw [hM3, mcp_cell _ (by omega)]) 4).trans u4_M2
  have uc_M3 : M3 c = P := (show M3 c = M2 c by rw [hM3, mcp_cell _ (by omega)]).trans uc_M2
  have uuF_M3 : M3 (u + 2) = F := (show M3 (u + 2) = M2 (u + 2) by rw [hM3, mcp_cell _ (by omega)]).trans uuF_M2
  have uuZ_M3 : M3 (u + 1) = Z := (show M3 (u + 1) = M2 (u + 1) by rw [hM3, mcp_cell _ (by omega)]).trans uuZ_M2
  have yZ_M3 : ∀ j : Nat, j < 6 → M3 (t + 1) j = Z j := fun j hj => (congrFun (show M3 (t + 1) = M2 (t + 1) by rw [hM3, mcp_cell _ (by omega)]) j).trans (yZ_M2 j hj)
  have yF_M3 : ∀ j : Nat, j < 6 → M3 (t + 2) j = F j := fun j hj => (congrFun (show M3 (t + 2) = M2 (t + 2) by rw [hM3, mcp_cell _ (by omega)]) j).trans (yF_M2 j hj)
  have ya_M3 : ∀ j : Nat, j < 24 → M3 a j = P j := fun j hj => by rw [hM3, mcp_in _ hj, uc_M2]
  refine g_aload_n (pc' := 46) 0 dX7_copyFrom_45 rfl rfl ?_
  refine g_aload_n (pc' := 47) 1 dX7_copyFrom_46 rfl rfl ?_
  refine g_getL (pc' := 50) dX7_copyFrom_47 rfl f_X7_25 hu.o rfl (fun v4 ev4 rv4 => ?_)
  have gv4 : v4 = L := ev4.trans u4_M3
  refine g_putL (pc' := 53) dX7_copyFrom_50 rfl p_X7_25 ht.o rfl rv4 (fun M5 hM5 => ?_)
  have fM5 : Fr (inT t) M M5 := Fr.wr fM3 hM5 (by unfold inT; omega)
  have t2_M5 : M5 t 2 = (a : Int) := (show M5 t 2 = M3 t 2 by rw [hM5]; exact mu_ne _ _ (fun _ => by decide)).trans t2_M3
  have t3_M5 : M5 t 3 = (b : Int) := (show M5 t 3 = M3 t 3 by rw [hM5]; exact mu_ne _ _ (fun _ => by decide)).trans t3_M3
  have t5_M5 : M5 t 5 = n0 := (show M5 t 5 = M3 t 5 by rw [hM5]; exact mu_ne _ _ (fun _ => by decide)).trans t5_M3
  have t4_M5 : M5 t 4 = v4 := by rw [hM5]; exact mu_at _ _ _ _
  have u2_M5 : M5 u 2 = (c : Int) := (congrFun (show M5 u = M3 u by rw [hM5, mu_cell _ _ (by omega)]) 2).trans u2_M3
  have u5_M5 : M5 u 5 = n := (congrFun (show M5 u = M3 u by rw [hM5, mu_cell _ _ (by omega)]) 5).trans u5_M3
  have u4_M5 : M5 u 4 = L := (congrFun (show M5 u = M3 u by rw [hM5, mu_cell _ _ (by omega)]) 4).trans u4_M3
  have uc_M5 : M5 c = P := (show M5 c = M3 c by rw [hM5, mu_cell _ _ (by omega)]).trans uc_M3
  have uuF_M5 : M5 (u + 2) = F := (show M5 (u + 2) = M3 (u + 2) by rw [hM5, mu_cell _ _ (by omega)]).trans uuF_M3
  have uuZ_M5 : M5 (u + 1) = Z := (show M5 (u + 1) = M3 (u + 1) by rw [hM5, mu_cell _ _ (by omega)]).trans uuZ_M3
  have yZ_M5 : ∀ j : Nat, j < 6 → M5 (t + 1) j = Z j := fun j hj => (congrFun (show M5 (t + 1) = M3 (t + 1) by rw [hM5, mu_cell _ _ (by omega)]) j).trans (yZ_M3 j hj)
  have yF_M5 : ∀ j : Nat, j < 6 → M5 (t + 2) j = F j := fun j hj => (congrFun (show M5 (t + 2) = M3 (t + 2) by rw [hM5, mu_cell _ _ (by omega)]) j).trans (yF_M3 j hj)
  have ya_M5 : ∀ j : Nat, j < 24 → M5 a j = P j := fun j hj => (congrFun (show M5 a = M3 a by rw [hM5, mu_cell _ _ (by omega)]) j).trans (ya_M3 j hj)
  refine g_aload_n (pc' := 54) 0 dX7_copyFrom_53 rfl rfl ?_
  refine g_aload_n (pc' := 55) 1 dX7_copyFrom_54 rfl rfl ?_
  refine g_getI (pc' := 58) dX7_copyFrom_55 rfl f_X7_29 hu.o rfl (fun v6 ev6 rv6 => ?_)
  have gv6 : v6 = n := ev6.trans u5_M5
  refine g_putI (pc' := 61) dX7_copyFrom_58 rfl p_X7_29 ht.o rfl rv6 (fun M7 hM7 => ?_)
  have fM7 : Fr (inT t) M M7 := Fr.wr fM5 hM7 (by unfold inT; omega)
  have t2_M7 : M7 t 2 = (a : Int) := (show M7 t 2 = M5 t 2 by rw [hM7]; exact mu_ne _ _ (fun _ => by decide)).trans t2_M5
  have t3_M7 : M7 t 3 = (b : Int) := (show M7 t 3 = M5 t 3 by rw [hM7]; exact mu_ne _ _ (fun _ => by decide)).trans t3_M5
  have t5_M7 : M7 t 5 = v6 := by rw [hM7]; exact mu_at _ _ _ _
  have t4_M7 : M7 t 4 = v4 := (show M7 t 4 = M5 t 4 by rw [hM7]; exact mu_ne _ _ (fun _ => by decide)).trans t4_M5
  have u2_M7 : M7 u 2 = (c : Int) := (congrFun (show M7 u = M5 u by rw [hM7, mu_cell _ _ (by omega)]) 2).trans u2_M5
  have u5_M7 : M7 u 5 = n := (congrFun (show M7 u = M5 u by rw [hM7, mu_cell _ _ (by omega)]) 5).trans u5_M5
  have u4_M7 : M7 u 4 = L := (congrFun (show M7 u = M5 u by rw [hM7, mu_cell _ _ (by omega)]) 4).trans u4_M5
  have uc_M7 : M7 c = P := (show M7 c = M5 c by rw [hM7, mu_cell _ _ (by omega)]).trans uc_M5
  have uuF_M7 : M7 (u + 2) = F := (show M7 (u + 2) = M5 (u + 2) by rw [hM7, mu_cell _ _ (by omega)]).trans uuF_M5
  have uuZ_M7 : M7 (u + 1) = Z := (show M7 (u + 1) = M5 (u + 1) by rw [hM7, mu_cell _ _ (by omega)]).trans uuZ_M5
  have yZ_M7 : ∀ j : Nat, j < 6 → M7 (t + 1) j = Z j := fun j hj => (congrFun (show M7 (t + 1) = M5 (t + 1) by rw [hM7, mu_cell _ _ (by omega)]) j).trans (yZ_M5 j hj)
  have yF_M7 : ∀ j : Nat, j < 6 → M7 (t + 2) j = F j := fun j hj => (congrFun (show M7 (t + 2) = M5 (t + 2) by rw [hM7, mu_cell _ _ (by omega)]) j).trans (yF_M5 j hj)
  have ya_M7 : ∀ j : Nat, j < 24 → M7 a j = P j := fun j hj => (congrFun (show M7 a = M5 a by rw [hM7, mu_cell _ _ (by omega)]) j).trans (ya_M5 j hj)
  refine g_vreturn dX7_copyFrom_61 ?_
  exact ⟨TV.ok (⟨⟨t2_M7, t3_M7⟩, hab, t5_M7.trans (by omega), rfl, t4_M7.trans (by omega), rfl, rfl⟩ : TV M7 t a b n (M7 a) L (M7 (t + 2)) (M7 (t + 1))) cun, fM7, by omega, M7 a, M7 (t + 2), M7 (t + 1), (⟨⟨t2_M7, t3_M7⟩, hab, t5_M7.trans (by omega), rfl, t4_M7.trans (by omega), rfl, rfl⟩ : TV M7 t a b n (M7 a) L (M7 (t + 2)) (M7 (t + 1))), ya_M7, yF_M7, yZ_M7⟩
