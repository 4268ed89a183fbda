set_option maxHeartbeats 4000000 in
set_option maxRecDepth 100000 in
theorem j_X10_readClause_407 (X : Cx) (M : Mm) (hi : IM M) (htk : TK M) (hbad : M 97 18 = 0) (hn19 : 0 ≤ M 97 19 ∧ M 97 19 ≤ 12) (hnc : 0 ≤ M 97 21 ∧ M 97 21 ≤ M 97 13) (hcl : CLS M) (hd : Int) (cx : Int) (M1 : Mm) (ic1 : IM M1) (fr1 : Fr (fun c => c = 97 ∨ (107 ≤ c ∧ c ≤ 111)) M M1) (q97_12 : (M1 97 12 = M 97 12)) (hhd : 0 ≤ hd ∧ hd ≤ 2) (hcx : cx = 8 * M 97 19 ∧ M 97 19 < 12) (un1 : UN M M1 cx) (lo1 : LO M M1 (M 97 21)) (tk1 : TK M1) (k01 : M1 107 cx.toNat = hd) (nm1 : M 97 21 ≤ M1 97 21 ∧ M1 97 21 ≤ M1 97 13 ∧ M 97 13 < M1 97 13) (ncl1 : M1 97 19 = M 97 19 + 1) (k11 : K1 (M1 97 18) (M1 107 (cx + 1).toNat) hd) (k31 : M1 107 (cx + 3).toNat = M 97 21) (k41 : K4 M1 (M 97 21) (M1 107 (cx + 4).toNat)) (k4n1 : M1 107 (cx + 4).toNat ≤ M1 97 21) (k21 : K2 (M1 97 18) (M1 107 (cx + 2).toNat)) (k71 : K7 (M1 97 18) (M1 107 (cx + 7).toNat)) (k51 : K4 M1 (M1 107 (cx + 5).toNat) (M1 97 21)) (k5n1 : 0 ≤ M1 107 (cx + 5).toNat ∧ M1 107 (cx + 5).toNat ≤ M1 97 21) : G X 7 RX10 cX10_readClause 4 none (Qv (fun M1 => IM M1 ∧ Fr (fun c => c = 97 ∨ (107 ≤ c ∧ c ≤ 111)) M M1 ∧ M1 97 12 = M 97 12 ∧ (TK M1 ∧ (0 ≤ M1 97 19 ∧ M1 97 19 ≤ 12) ∧ (0 ≤ M1 97 21 ∧ M1 97 21 ≤ M1 97 13) ∧ M 97 13 ≤ M1 97 13 ∧ CB M1))) 407 [(1, vi hd), (2, vi cx), (0, vr X 97)] [] M1 := by
  have p12 := hi.2.2.2.1
  have tb1 := tk1.b
  have lt1 := tk1.lt
  refine g_aload_n (pc' := 408) 2 dX10_readClause_407 rfl rfl ?_
  refine g_getR (pc' := 411) dX10_readClause_408 rfl f_X10_43 rfl rfl ?_
  refine g_iload_n (pc' := 412) 1 dX10_readClause_411 rfl rfl ?_
  refine g_bipush (pc' := 414) (v := 6) dX10_readClause_412 rfl (by decide) ?_
  refine g_iadd (pc' := 415) dX10_readClause_414 rfl ?_
  refine g_aload_n (pc' := 416) 2 dX10_readClause_415 rfl rfl ?_
  refine g_getI (pc' := 419) dX10_readClause_416 rfl f_X10_191 rfl rfl (fun v2 ev2 rv2 => ?_)
  refine g_iast (pc' := 420) dX10_readClause_419 rfl rfl (by omega) (by omega) rv2 (fun M3 hM3 => ?_)
  have iM3 : IM M3 := IM.wr ic1 hM3 (by unfold okv; first | decide | omega)
  have fM3 : Fr (fun c => c = 97 ∨ (107 ≤ c ∧ c ≤ 111)) M M3 := Fr.wr fr1 hM3 (by first | decide | omega | (dsimp only; omega))
  have q97_12_M3 : (M3 97 12 = M 97 12) := (show M3 97 12 = M1 97 12 by rw [hM3]; exact mu_ne _ _ (by first | decide | omega)).trans q97_12
  have wM3_97_13 : M3 97 13 = M1 97 13 := by rw [hM3]; exact mu_ne _ _ (by first | decide | omega)
  have wM3_97_14 : M3 97 14 = M1 97 14 := by rw [hM3]; exact mu_ne _ _ (by first | decide | omega)
  have wM3_97_15 : M3 97 15 = M1 97 15 := by rw [hM3]; exact mu_ne _ _ (by first | decide | omega)
  have wM3_97_16 : M3 97 16 = M1 97 16 := by rw [hM3]; exact mu_ne _ _ (by first | decide | omega)
  have wM3_97_18 : M3 97 18 = M1 97 18 := by rw [hM3]; exact mu_ne _ _ (by first | decide | omega)
  have wM3_97_19 : M3 97 19 = M1 97 19 := by rw [hM3]; exact mu_ne _ _ (by first | decide | omega)
  have wM3_97_21 : M3 97 21 = M1 97 21 := by rw [hM3]; exact mu_ne _ _ (by first | decide | omega)
  have vM3_0 : M3 107 cx.toNat = M1 107 cx.toNat := (by rw [hM3]; exact mu_ne _ _ (by first | decide | omega))
  have vM3_1 : M3 107 (cx + 1).toNat = M1 107 (cx + 1).toNat := (by rw [hM3]; exact mu_ne _ _ (by first | decide | omega))
  have vM3_2 : M3 107 (cx + 2).toNat = M1 107 (cx + 2).toNat := (by rw [hM3]; exact mu_ne _ _ (by first | decide | omega))
  have vM3_3 : M3 107 (cx + 3).toNat = M1 107 (cx + 3).toNat := (by rw [hM3]; exact mu_ne _ _ (by first | decide | omega))
  have vM3_4 : M3 107 (cx + 4).toNat = M1 107 (cx + 4).toNat := (by rw [hM3]; exact mu_ne _ _ (by first | decide | omega))
  have vM3_5 : M3 107 (cx + 5).toNat = M1 107 (cx + 5).toNat := (by rw [hM3]; exact mu_ne _ _ (by first | decide | omega))
  have vM3_7 : M3 107 (cx + 7).toNat = M1 107 (cx + 7).toNat := (by rw [hM3]; exact mu_ne _ _ (by first | decide | omega))
  have unM3 : UN M M3 cx := UN.wr un1 hM3 (by omega)
  have loM3 : LO M M3 (M 97 21) := LO.tr lo1 (LO.eq (by rw [hM3, mu_cell _ _ (by decide)]) (by rw [hM3, mu_cell _ _ (by decide)]))
  have tkM3 : TK M3 := TK.eq tk1 (show M3 97 12 = M1 97 12 by rw [hM3]; exact mu_ne _ _ (by first | decide | omega)) (show M3 97 13 = M1 97 13 by rw [hM3]; exact mu_ne _ _ (by first | decide | omega)) (show M3 97 14 = M1 97 14 by rw [hM3]; exact mu_ne _ _ (by first | decide | omega)) (show M3 97 15 = M1 97 15 by rw [hM3]; exact mu_ne _ _ (by first | decide | omega)) (show M3 97 16 = M1 97 16 by rw [hM3]; exact mu_ne _ _ (by first | decide | omega))
  have k0M3 : M3 107 cx.toNat = hd := vM3_0.trans k01
  have nmM3 : M 97 21 ≤ M3 97 21 ∧ M3 97 21 ≤ M3 97 13 ∧ M 97 13 < M3 97 13 := (by omega)
  have nclM3 : M3 97 19 = M 97 19 + 1 := (by omega)
  have k1M3 : K1 (M3 97 18) (M3 107 (cx + 1).toNat) hd := K1.nx k11 (by omega) vM3_1
  have k3M3 : M3 107 (cx + 3).toNat = M 97 21 := vM3_3.trans k31
  have k4M3 : K4 M3 (M 97 21) (M3 107 (cx + 4).toNat) := K4.nx k41 (by omega) (by rw [hM3, mu_cell _ _ (by decide)]) (by rw [hM3, mu_cell _ _ (by decide)]) rfl vM3_4
  have k4nM3 : M3 107 (cx + 4).toNat ≤ M3 97 21 := (by omega)
  have k2M3 : K2 (M3 97 18) (M3 107 (cx + 2).toNat) := K2.nx k21 (by omega) vM3_2
  have k7M3 : K7 (M3 97 18) (M3 107 (cx + 7).toNat) := K7.nx k71 (by omega) vM3_7
  have k5M3 : K4 M3 (M3 107 (cx + 5).toNat) (M3 97 21) := K4.nx k51 (by omega) (by rw [hM3, mu_cell _ _ (by decide)]) (by rw [hM3, mu_cell _ _ (by decide)]) vM3_5 (by omega)
  have k5nM3 : 0 ≤ M3 107 (cx + 5).toNat ∧ M3 107 (cx + 5).toNat ≤ M3 97 21 := (by omega)
  have xM3_6 : M3 107 (cx + 6).toNat = v2 := by rw [hM3]; exact mu_at _ _ _ _
  have k6M3 : K4 M3 (M3 107 (cx + 5).toNat) (M3 107 (cx + 6).toNat) := K4.nx k5M3 (by omega) rfl rfl rfl (by omega)
  have k6nM3 : M3 107 (cx + 6).toNat ≤ M3 97 21 := (by omega)
  refine g_vreturn dX10_readClause_420 ?_
  exact ⟨iM3, fM3, q97_12_M3, tkM3, by omega, by omega, by omega, CB.add hcl (by omega) (by omega) (by omega) unM3 loM3 (by omega) k0M3 (by omega) k1M3 k2M3 k7M3 k3M3 k4M3 (by omega) k6M3 (by omega)⟩
set_option maxHeartbeats 4000000 in
set_option maxRecDepth 100000 in
theorem j_X10_readClause_369 (X : Cx) (M : Mm) (hi : IM M) (htk : TK M) (hbad : M 97 18 = 0) (hn19 : 0 ≤ M 97 19 ∧ M 97 19 ≤ 12) (hnc : 0 ≤ M 97 21 ∧ M 97 21 ≤ M 97 13) (hcl : CLS M) (hd : Int) (cx : Int) (M1 : Mm) (ic1 : IM M1) (fr1 : Fr (fun c => c = 97 ∨ (107 ≤ c ∧ c ≤ 111)) M M1) (q97_12 : (M1 97 12 = M 97 12)) (hhd : 0 ≤ hd ∧ hd ≤ 2) (hcx : cx = 8 * M 97 19 ∧ M 97 19 < 12) (un1 : UN M M1 cx) (lo1 : LO M M1 (M 97 21)) (tk1 : TK M1) (k01 : M1 107 cx.toNat = hd) (nm1 : M 97 21 ≤ M1 97 21 ∧ M1 97 21 ≤ M1 97 13 ∧ M 97 13 < M1 97 13) (ncl1 : M1 97 19 = M 97 19 + 1) (k11 : K1 (M1 97 18) (M1 107 (cx + 1).toNat) hd) (k31 : M1 107 (cx + 3).toNat = M 97 21) (k41 : K4 M1 (M 97 21) (M1 107 (cx + 4).toNat)) (k4n1 : M1 107 (cx + 4).toNat ≤ M1 97 21) (k21 : K2 (M1 97 18) (M1 107 (cx + 2).toNat)) (k71 : K7 (M1 97 18) (M1 107 (cx + 7).toNat)) : G X 7 RX10 cX10_readClause 4 none (Qv (fun M1 => IM M1 ∧ Fr (fun c => c = 97 ∨ (107 ≤ c ∧ c ≤ 111)) M M1 ∧ M1 97 12 = M 97 12 ∧ (TK M1 ∧ (0 ≤ M1 97 19 ∧ M1 97 19 ≤ 12) ∧ (0 ≤ M1 97 21 ∧ M1 97 21 ≤ M1 97 13) ∧ M 97 13 ≤ M1 97 13 ∧ CB M1))) 369 [(1, vi hd), (2, vi cx), (0, vr X 97)] [] M1 := by
  have p12 := hi.2.2.2.1
  have tb1 := tk1.b
  have lt1 := tk1.lt
  refine g_aload_n (pc' := 370) 2 dX10_readClause_369 rfl rfl ?_
  refine g_getR (pc' := 373) dX10_readClause_370 rfl f_X10_43 rfl rfl ?_
  refine g_iload_n (pc' := 374) 1 dX10_readClause_373 rfl rfl ?_
  refine g_iconst (pc' := 375) dX10_readClause_374 rfl ?_
  refine g_iadd (pc' := 376) dX10_readClause_375 rfl ?_
  refine g_aload_n (pc' := 377) 2 dX10_readClause_376 rfl rfl ?_
  refine g_getI (pc' := 380) dX10_readClause_377 rfl f_X10_191 rfl rfl (fun v2 ev2 rv2 => ?_)
  refine g_iast (pc' := 381) dX10_readClause_380 rfl rfl (by omega) (by omega) rv2 (fun M3 hM3 => ?_)
  have iM3 : IM M3 := IM.wr ic1 hM3 (by unfold okv; first | decide | omega)
  have fM3 : Fr (fun c => c = 97 ∨ (107 ≤ c ∧ c ≤ 111)) M M3 := Fr.wr fr1 hM3 (by first | decide | omega | (dsimp only; omega))
  have q97_12_M3 : (M3 97 12 = M 97 12) := (show M3 97 12 = M1 97 12 by rw [hM3]; exact mu_ne _ _ (by first | decide | omega)).trans q97_12
  have wM3_97_13 : M3 97 13 = M1 97 13 := by rw [hM3]; exact mu_ne _ _ (by first | decide | omega)
  have wM3_97_14 : M3 97 14 = M1 97 14 := by rw [hM3]; exact mu_ne _ _ (by first | decide | omega)
  have wM3_97_15 : M3 97 15 = M1 97 15 := by rw [hM3]; exact mu_ne _ _ (by first | decide | omega)
  have wM3_97_16 : M3 97 16 = M1 97 16 := by rw [hM3]; exact mu_ne _ _ (by first | decide | omega)
  have wM3_97_18 : M3 97 18 = M1 97 18 := by rw [hM3]; exact mu_ne _ _ (by first | decide | omega)
  have wM3_97_19 : M3 97 19 = M1 97 19 := by rw [hM3]; exact mu_ne _ _ (by first | decide | omega)
  have wM3_97_21 : M3 97 21 = M1 97 21 := by rw [hM3]; exact mu_ne _ _ (by first | decide | omega)
  have vM3_0 : M3 107 cx.toNat = M1 107 cx.toNat := (by rw [hM3]; exact mu_ne _ _ (by first | decide | omega))
  have vM3_1 : M3 107 (cx + 1).toNat = M1 107 (cx + 1).toNat := (by rw [hM3]; exact mu_ne _ _ (by first | decide | omega))
  have vM3_2 : M3 107 (cx + 2).toNat = M1 107 (cx + 2).toNat := (by rw [hM3]; exact mu_ne _ _ (by first | decide | omega))
  have vM3_3 : M3 107 (cx + 3).toNat = M1 107 (cx + 3).toNat := (by rw [hM3]; exact mu_ne _ _ (by first | decide | omega))
  have vM3_4 : M3 107 (cx + 4).toNat = M1 107 (cx + 4).toNat := (by rw [hM3]; exact mu_ne _ _ (by first | decide | omega))
  have vM3_7 : M3 107 (cx + 7).toNat = M1 107 (cx + 7).toNat := (by rw [hM3]; exact mu_ne _ _ (by first | decide | omega))
  have unM3 : UN M M3 cx := UN.wr un1 hM3 (by omega)
  have loM3 : LO M M3 (M 97 21) := LO.tr lo1 (LO.eq (by rw [hM3, mu_cell _ _ (by decide)]) (by rw [hM3, mu_cell _ _ (by decide)]))
  have tkM3 : TK M3 := TK.eq tk1 (show M3 97 12 = M1 97 12 by rw [hM3]; exact mu_ne _ _ (by first | decide | omega)) (show M3 97 13 = M1 97 13 by rw [hM3]; exact mu_ne _ _ (by first | decide | omega)) (show M3 97 14 = M1 97 14 by rw [hM3]; exact mu_ne _ _ (by first | decide | omega)) (show M3 97 15 = M1 97 15 by rw [hM3]; exact mu_ne _ _ (by first | decide | omega)) (show M3 97 16 = M1 97 16 by rw [hM3]; exact mu_ne _ _ (by first | decide | omega))
  have k0M3 : M3 107 cx.toNat = hd := vM3_0.trans k01
  have nmM3 : M 97 21 ≤ M3 97 21 ∧ M3 97 21 ≤ M3 97 13 ∧ M 97 13 < M3 97 13 := (by omega)
  have nclM3 : M3 97 19 = M 97 19 + 1 := (by omega)
  have k1M3 : K1 (M3 97 18) (M3 107 (cx + 1).toNat) hd := K1.nx k11 (by omega) vM3_1
  have k3M3 : M3 107 (cx + 3).toNat = M 97 21 := vM3_3.trans k31
  have k4M3 : K4 M3 (M 97 21) (M3 107 (cx + 4).toNat) := K4.nx k41 (by omega) (by rw [hM3, mu_cell _ _ (by decide)]) (by rw [hM3, mu_cell _ _ (by decide)]) rfl vM3_4
  have k4nM3 : M3 107 (cx + 4).toNat ≤ M3 97 21 := (by omega)
  have k2M3 : K2 (M3 97 18) (M3 107 (cx + 2).toNat) := K2.nx k21 (by omega) vM3_2
  have k7M3 : K7 (M3 97 18) (M3 107 (cx + 7).toNat) := K7.nx k71 (by omega) vM3_7
  have xM3_5 : M3 107 (cx + 5).toNat = v2 := by rw [hM3]; exact mu_at _ _ _ _
  have k5M3 : K4 M3 (M3 107 (cx + 5).toNat) (M3 97 21) := K4.nil (by omega) (by omega)
  have k5nM3 : 0 ≤ M3 107 (cx + 5).toNat ∧ M3 107 (cx + 5).toNat ≤ M3 97 21 := (by omega)
  refine g_aload_n (pc' := 382) 2 dX10_readClause_381 rfl rfl ?_
  refine g_getI (pc' := 385) dX10_readClause_382 rfl f_X10_154 rfl rfl (fun v4 ev4 rv4 => ?_)
  refine g_if_ne (pc' := 388) (tgt := 407) rv4 dX10_readClause_385 rfl rfl (fun c5 => ?_) (fun c5 => ?_)
  · refine g_sub [0, 1, 2] rfl ?_
    exact j_X10_readClause_407 X M hi htk hbad hn19 hnc hcl hd cx M3 iM3 fM3 q97_12_M3 (by omega) (by omega) unM3 loM3 tkM3 k0M3 (by omega) (by omega) k1M3 k3M3 k4M3 (by omega) k2M3 k7M3 k5M3 (by omega)
  · refine g_aload_n (pc' := 389) 2 dX10_readClause_388 rfl rfl ?_
    refine g_ldc2 (pc' := 392) (v := 294) dX10_readClause_389 rfl k_X10_296 ?_
    refine g_callVip (pc' := 395) (As := [vl 294]) (b := 97) (S := []) dX10_readClause_392 rfl m_X10_229 w_X10_isWord (c_X10_isWord X M3 iM3 294 (by decide)) rfl ⟨_, _, _, rfl, rfl, rfl⟩ (by decide) (by decide) rfl (Nat.le_of_ble_eq_true rfl) (fun z7 q6 => ?_)
    refine g_if_eq (pc' := 398) (tgt := 407) ⟨by omega, by omega⟩ dX10_readClause_395 rfl rfl (fun c8 => ?_) (fun c8 => ?_)
    · refine g_sub [0, 1, 2] rfl ?_
      exact j_X10_readClause_407 X M hi htk hbad hn19 hnc hcl hd cx M3 iM3 fM3 q97_12_M3 (by omega) (by omega) unM3 loM3 tkM3 k0M3 (by omega) (by omega) k1M3 k3M3 k4M3 (by omega) k2M3 k7M3 k5M3 (by omega)
    · refine g_aload_n (pc' := 399) 2 dX10_readClause_398 rfl rfl ?_
      refine g_callVv (pc' := 402) (As := []) (b := 97) (S := []) dX10_readClause_399 rfl m_X10_158 w_X10_next (c_X10_next X M3 iM3 (by omega)) rfl ⟨_, _, _, rfl, rfl, rfl⟩ (by decide) (by decide) rfl (Nat.le_of_ble_eq_true rfl) (fun M10 q9 => ?_)
      obtain ⟨iM10, fM100, eM10_97_12, eM10_97_19, eM10_97_21, eM10_97_24, eM10_97_27, eM10_97_28, eM10_97_18, pM10⟩ := q9
      have fM10 : Fr (fun c => c = 97 ∨ (107 ≤ c ∧ c ≤ 111)) M M10 := Fr.tr fM3 fM100 fi_40
      have q97_12_M10 : (M10 97 12 = M 97 12) := eM10_97_12.trans q97_12_M3
      have wM10_97_18 : M10 97 18 = M3 97 18 := eM10_97_18
      have wM10_97_19 : M10 97 19 = M3 97 19 := eM10_97_19
      have wM10_97_21 : M10 97 21 = M3 97 21 := eM10_97_21
      obtain ⟨aM10p, kM10p⟩ := pM10
      have tkM10 : TK M10 := kM10p
      clear kM10p
      have tbM10 := tkM10.b
      have vM10_0 : M10 107 cx.toNat = M3 107 cx.toNat := (congrFun (fM100 107 (by decide)) _)
      have vM10_1 : M10 107 (cx + 1).toNat = M3 107 (cx + 1).toNat := (congrFun (fM100 107 (by decide)) _)
      have vM10_2 : M10 107 (cx + 2).toNat = M3 107 (cx + 2).toNat := (congrFun (fM100 107 (by decide)) _)
      have vM10_3 : M10 107 (cx + 3).toNat = M3 107 (cx + 3).toNat := (congrFun (fM100 107 (by decide)) _)
      have vM10_4 : M10 107 (cx + 4).toNat = M3 107 (cx + 4).toNat := (congrFun (fM100 107 (by decide)) _)
      have vM10_5 : M10 107 (cx + 5).toNat = M3 107 (cx + 5).toNat := (congrFun (fM100 107 (by decide)) _)
      have vM10_7 : M10 107 (cx + 7).toNat = M3 107 (cx + 7).toNat := (congrFun (fM100 107 (by decide)) _)
      have unM10 : UN M M10 cx := UN.nx unM3 (fM100 107 (by decide))
      have loM10 : LO M M10 (M 97 21) := LO.tr loM3 (LO.eq (fM100 108 (by decide)) (fM100 109 (by decide)))
      have k0M10 : M10 107 cx.toNat = hd := vM10_0.trans k0M3
      have nmM10 : M 97 21 ≤ M10 97 21 ∧ M10 97 21 ≤ M10 97 13 ∧ M 97 13 < M10 97 13 := (by omega)
      have nclM10 : M10 97 19 = M 97 19 + 1 := (by omega)
      have k1M10 : K1 (M10 97 18) (M10 107 (cx + 1).toNat) hd := K1.nx k1M3 (by omega) vM10_1
      have k3M10 : M10 107 (cx + 3).toNat = M 97 21 := vM10_3.trans k3M3
      have k4M10 : K4 M10 (M 97 21) (M10 107 (cx + 4).toNat) := K4.nx k4M3 (by omega) (fM100 108 (by decide)) (fM100 109 (by decide)) rfl vM10_4
      have k4nM10 : M10 107 (cx + 4).toNat ≤ M10 97 21 := (by omega)
      have k2M10 : K2 (M10 97 18) (M10 107 (cx + 2).toNat) := K2.nx k2M3 (by omega) vM10_2
      have k7M10 : K7 (M10 97 18) (M10 107 (cx + 7).toNat) := K7.nx k7M3 (by omega) vM10_7
      have k5M10 : K4 M10 (M10 107 (cx + 5).toNat) (M10 97 21) := K4.nx k5M3 (by omega) (fM100 108 (by decide)) (fM100 109 (by decide)) vM10_5 (by omega)
      have k5nM10 : 0 ≤ M10 107 (cx + 5).toNat ∧ M10 107 (cx + 5).toNat ≤ M10 97 21 := (by omega)
      refine g_aload_n (pc' := 403) 2 dX10_readClause_402 rfl rfl ?_
      refine g_iconst (pc' := 404) dX10_readClause_403 rfl ?_
      refine g_callVv (pc' := 407) (As := [vi 1]) (b := 97) (S := []) dX10_readClause_404 rfl m_X10_287 w_X10_readExpression (c_X10_readExpression X M10 iM10 1 (by decide) tkM10 (by omega) (by omega)) rfl ⟨_, _, _, rfl, rfl, rfl⟩ (by decide) (by decide) rfl (Nat.le_of_ble_eq_true rfl) (fun M12 q11 => ?_)
      obtain ⟨iM12, fM120, eM12_97_12, eM12_97_19, pM12⟩ := q11
      have fM12 : Fr (fun c => c = 97 ∨ (107 ≤ c ∧ c ≤ 111)) M M12 := Fr.tr fM10 fM120 fi_41
      have q97_12_M12 : (M12 97 12 = M 97 12) := eM12_97_12.trans q97_12_M10
      have wM12_97_19 : M12 97 19 = M10 97 19 := eM12_97_19
      obtain ⟨sM12x, xM12x, lM12x, tkM12, aM12x⟩ := pM12
      have tbM12 := tkM12.b
      have srM12 := sM12x.ar
      have vM12_0 : M12 107 cx.toNat = M10 107 cx.toNat := (congrFun (fM120 107 (by decide)) _)
      have vM12_1 : M12 107 (cx + 1).toNat = M10 107 (cx + 1).toNat := (congrFun (fM120 107 (by decide)) _)
      have vM12_2 : M12 107 (cx + 2).toNat = M10 107 (cx + 2).toNat := (congrFun (fM120 107 (by decide)) _)
      have vM12_3 : M12 107 (cx + 3).toNat = M10 107 (cx + 3).toNat := (congrFun (fM120 107 (by decide)) _)
      have vM12_4 : M12 107 (cx + 4).toNat = M10 107 (cx + 4).toNat := (congrFun (fM120 107 (by decide)) _)
      have vM12_5 : M12 107 (cx + 5).toNat = M10 107 (cx + 5).toNat := (congrFun (fM120 107 (by decide)) _)
      have vM12_7 : M12 107 (cx + 7).toNat = M10 107 (cx + 7).toNat := (congrFun (fM120 107 (by decide)) _)
      have unM12 : UN M M12 cx := UN.nx unM10 (fM120 107 (by decide))
      have loM12 : LO M M12 (M 97 21) := LO.tr loM10 (LO.mo lM12x (by omega))
      have k0M12 : M12 107 cx.toNat = hd := vM12_0.trans k0M10
      have nmM12 : M 97 21 ≤ M12 97 21 ∧ M12 97 21 ≤ M12 97 13 ∧ M 97 13 < M12 97 13 := (by omega)
      have nclM12 : M12 97 19 = M 97 19 + 1 := (by omega)
      have k1M12 : K1 (M12 97 18) (M12 107 (cx + 1).toNat) hd := K1.nx k1M10 (by omega) vM12_1
      have k3M12 : M12 107 (cx + 3).toNat = M 97 21 := vM12_3.trans k3M10
      have k4M12 : K4 M12 (M 97 21) (M12 107 (cx + 4).toNat) := K4.lo k4M10 (by omega) lM12x (by omega) rfl vM12_4
      have k4nM12 : M12 107 (cx + 4).toNat ≤ M12 97 21 := (by omega)
      have k2M12 : K2 (M12 97 18) (M12 107 (cx + 2).toNat) := K2.nx k2M10 (by omega) vM12_2
      have k7M12 : K7 (M12 97 18) (M12 107 (cx + 7).toNat) := K7.nx k7M10 (by omega) vM12_7
      have k5M12 : K4 M12 (M12 107 (cx + 5).toNat) (M12 97 21) := K4.rx xM12x (by omega) rfl
      have k5nM12 : 0 ≤ M12 107 (cx + 5).toNat ∧ M12 107 (cx + 5).toNat ≤ M12 97 21 := (by omega)
      refine g_sub [0, 1, 2] rfl ?_
      exact j_X10_readClause_407 X M hi htk hbad hn19 hnc hcl hd cx M12 iM12 fM12 q97_12_M12 (by omega) (by omega) unM12 loM12 tkM12 k0M12 (by omega) (by omega) k1M12 k3M12 k4M12 (by omega) k2M12 k7M12 k5M12 (by omega)
set_option maxHeartbeats 4000000 in
set_option maxRecDepth 100000 in
theorem j_X10_readClause_280 (X : Cx) (M : Mm) (hi : IM M) (htk : TK M) (hbad : M 97 18 = 0) (hn19 : 0 ≤ M 97 19 ∧ M 97 19 ≤ 12) (hnc : 0 ≤ M 97 21 ∧ M 97 21 ≤ M 97 13) (hcl : CLS M) (hd : Int) (cx : Int) (M1 : Mm) (ic1 : IM M1) (fr1 : Fr (fun c => c = 97 ∨ (107 ≤ c ∧ c ≤ 111)) M M1) (q97_12 : (M1 97 12 = M 97 12)) (hhd : 0 ≤ hd ∧ hd ≤ 2) (hcx : cx = 8 * M 97 19 ∧ M 97 19 < 12) (un1 : UN M M1 cx) (lo1 : LO M M1 (M 97 21)) (tk1 : TK M1) (k01 : M1 107 cx.toNat = hd) (nm1 : M 97 21 ≤ M1 97 21 ∧ M1 97 21 ≤ M1 97 13 ∧ M 97 13 < M1 97 13) (ncl1 : M1 97 19 = M 97 19 + 1) (k11 : K1 (M1 97 18) (M1 107 (cx + 1).toNat) hd) (k31 : M1 107 (cx + 3).toNat = M 97 21) (k41 : K4 M1 (M 97 21) (M1 107 (cx + 4).toNat)) (k4n1 : M1 107 (cx + 4).toNat ≤ M1 97 21) (k21 : K2 (M1 97 18) (M1 107 (cx + 2).toNat)) : G X 7 RX10 cX10_readClause 4 none (Qv (fun M1 => IM M1 ∧ Fr (fun c => c = 97 ∨ (107 ≤ c ∧ c ≤ 111)) M M1 ∧ M1 97 12 = M 97 12 ∧ (TK M1 ∧ (0 ≤ M1 97 19 ∧ M1 97 19 ≤ 12) ∧ (0 ≤ M1 97 21 ∧ M1 97 21 ≤ M1 97 13) ∧ M 97 13 ≤ M1 97 13 ∧ CB M1))) 280 [(1, vi hd), (2, vi cx), (0, vr X 97)] [] M1 := by
  have p12 := hi.2.2.2.1
  have tb1 := tk1.b
  have lt1 := tk1.lt
  refine g_aload_n (pc' := 281) 2 dX10_readClause_280 rfl rfl ?_
  refine g_getR (pc' := 284) dX10_readClause_281 rfl f_X10_43 rfl rfl ?_
  refine g_iload_n (pc' := 285) 1 dX10_readClause_284 rfl rfl ?_
  refine g_bipush (pc' := 287) (v := 7) dX10_readClause_285 rfl (by decide) ?_
  refine g_iadd (pc' := 288) dX10_readClause_287 rfl ?_
  refine g_iconst (pc' := 289) dX10_readClause_288 rfl ?_
  refine g_iast (pc' := 290) dX10_readClause_289 rfl rfl (by omega) (by omega) (by decide) (fun M2 hM2 => ?_)
  have iM2 : IM M2 := IM.wr ic1 hM2 (by unfold okv; first | decide | omega)
  have fM2 : Fr (fun c => c = 97 ∨ (107 ≤ c ∧ c ≤ 111)) M M2 := Fr.wr fr1 hM2 (by first | decide | omega | (dsimp only; omega))
  have q97_12_M2 : (M2 97 12 = M 97 12) := (show M2 97 12 = M1 97 12 by rw [hM2]; exact mu_ne _ _ (by first | decide | omega)).trans q97_12
  have wM2_97_13 : M2 97 13 = M1 97 13 := by rw [hM2]; exact mu_ne _ _ (by first | decide | omega)
  have wM2_97_14 : M2 97 14 = M1 97 14 := by rw [hM2]; exact mu_ne _ _ (by first | decide | omega)
  have wM2_97_15 : M2 97 15 = M1 97 15 := by rw [hM2]; exact mu_ne _ _ (by first | decide | omega)
  have wM2_97_16 : M2 97 16 = M1 97 16 := by rw [hM2]; exact mu_ne _ _ (by first | decide | omega)
  have wM2_97_18 : M2 97 18 = M1 97 18 := by rw [hM2]; exact mu_ne _ _ (by first | decide | omega)
  have wM2_97_19 : M2 97 19 = M1 97 19 := by rw [hM2]; exact mu_ne _ _ (by first | decide | omega)
  have wM2_97_21 : M2 97 21 = M1 97 21 := by rw [hM2]; exact mu_ne _ _ (by first | decide | omega)
  have vM2_0 : M2 107 cx.toNat = M1 107 cx.toNat := (by rw [hM2]; exact mu_ne _ _ (by first | decide | omega))
  have vM2_1 : M2 107 (cx + 1).toNat = M1 107 (cx + 1).toNat := (by rw [hM2]; exact mu_ne _ _ (by first | decide | omega))
  have vM2_2 : M2 107 (cx + 2).toNat = M1 107 (cx + 2).toNat := (by rw [hM2]; exact mu_ne _ _ (by first | decide | omega))
  have vM2_3 : M2 107 (cx + 3).toNat = M1 107 (cx + 3).toNat := (by rw [hM2]; exact mu_ne _ _ (by first | decide | omega))
  have vM2_4 : M2 107 (cx + 4).toNat = M1 107 (cx + 4).toNat := (by rw [hM2]; exact mu_ne _ _ (by first | decide | omega))
  have unM2 : UN M M2 cx := UN.wr un1 hM2 (by omega)
  have loM2 : LO M M2 (M 97 21) := LO.tr lo1 (LO.eq (by rw [hM2, mu_cell _ _ (by decide)]) (by rw [hM2, mu_cell _ _ (by decide)]))
  have tkM2 : TK M2 := TK.eq tk1 (show M2 97 12 = M1 97 12 by rw [hM2]; exact mu_ne _ _ (by first | decide | omega)) (show M2 97 13 = M1 97 13 by rw [hM2]; exact mu_ne _ _ (by first | decide | omega)) (show M2 97 14 = M1 97 14 by rw [hM2]; exact mu_ne _ _ (by first | decide | omega)) (show M2 97 15 = M1 97 15 by rw [hM2]; exact mu_ne _ _ (by first | decide | omega)) (show M2 97 16 = M1 97 16 by rw [hM2]; exact mu_ne _ _ (by first | decide | omega))
  have k0M2 : M2 107 cx.toNat = hd := vM2_0.trans k01
  have nmM2 : M 97 21 ≤ M2 97 21 ∧ M2 97 21 ≤ M2 97 13 ∧ M 97 13 < M2 97 13 := (by omega)
  have nclM2 : M2 97 19 = M 97 19 + 1 := (by omega)
  have k1M2 : K1 (M2 97 18) (M2 107 (cx + 1).toNat) hd := K1.nx k11 (by omega) vM2_1
  have k3M2 : M2 107 (cx + 3).toNat = M 97 21 := vM2_3.trans k31
  have k4M2 : K4 M2 (M 97 21) (M2 107 (cx + 4).toNat) := K4.nx k41 (by omega) (by rw [hM2, mu_cell _ _ (by decide)]) (by rw [hM2, mu_cell _ _ (by decide)]) rfl vM2_4
  have k4nM2 : M2 107 (cx + 4).toNat ≤ M2 97 21 := (by omega)
  have k2M2 : K2 (M2 97 18) (M2 107 (cx + 2).toNat) := K2.nx k21 (by omega) vM2_2
  have xM2_7 : M2 107 (cx + 7).toNat = 1 := by rw [hM2]; exact mu_at _ _ _ _
  have k7M2 : K7 (M2 97 18) (M2 107 (cx + 7).toNat) := (by unfold K7; omega)
  refine g_aload_n (pc' := 291) 2 dX10_readClause_290 rfl rfl ?_
  refine g_getI (pc' := 294) dX10_readClause_291 rfl f_X10_154 rfl rfl (fun v3 ev3 rv3 => ?_)
  refine g_if_ne (pc' := 297) (tgt := 369) rv3 dX10_readClause_294 rfl rfl (fun c4 => ?_) (fun c4 => ?_)
  · refine g_sub [0, 1, 2] rfl ?_
    exact j_X10_readClause_369 X M hi htk hbad hn19 hnc hcl hd cx M2 iM2 fM2 q97_12_M2 (by omega) (by omega) unM2 loM2 tkM2 k0M2 (by omega) (by omega) k1M2 k3M2 k4M2 (by omega) k2M2 k7M2
  · refine g_aload_n (pc' := 298) 2 dX10_readClause_297 rfl rfl ?_
    refine g_ldc2 (pc' := 301) (v := 21279923) dX10_readClause_298 rfl k_X10_294 ?_
    refine g_callVip (pc' := 304) (As := [vl 21279923]) (b := 97) (S := []) dX10_readClause_301 rfl m_X10_229 w_X10_isWord (c_X10_isWord X M2 iM2 21279923 (by decide)) rfl ⟨_, _, _, rfl, rfl, rfl⟩ (by decide) (by decide) rfl (Nat.le_of_ble_eq_true rfl) (fun z6 q5 => ?_)
    refine g_if_eq (pc' := 307) (tgt := 369) ⟨by omega, by omega⟩ dX10_readClause_304 rfl rfl (fun c7 => ?_) (fun c7 => ?_)
    · refine g_sub [0, 1, 2] rfl ?_
      exact j_X10_readClause_369 X M hi htk hbad hn19 hnc hcl hd cx M2 iM2 fM2 q97_12_M2 (by omega) (by omega) unM2 loM2 tkM2 k0M2 (by omega) (by omega) k1M2 k3M2 k4M2 (by omega) k2M2 k7M2
    · refine g_aload_n (pc' := 308) 2 dX10_readClause_307 rfl rfl ?_
      refine g_callVv (pc' := 311) (As := []) (b := 97) (S := []) dX10_readClause_308 rfl m_X10_158 w_X10_next (c_X10_next X M2 iM2 (by omega)) rfl ⟨_, _, _, rfl, rfl, rfl⟩ (by decide) (by decide) rfl (Nat.le_of_ble_eq_true rfl) (fun M9 q8 => ?_)
      obtain ⟨iM9, fM90, eM9_97_12, eM9_97_19, eM9_97_21, eM9_97_24, eM9_97_27, eM9_97_28, eM9_97_18, pM9⟩ := q8
      have fM9 : Fr (fun c => c = 97 ∨ (107 ≤ c ∧ c ≤ 111)) M M9 := Fr.tr fM2 fM90 fi_40
      have q97_12_M9 : (M9 97 12 = M 97 12) := eM9_97_12.trans q97_12_M2
      have wM9_97_18 : M9 97 18 = M2 97 18 := eM9_97_18
      have wM9_97_19 : M9 97 19 = M2 97 19 := eM9_97_19
      have wM9_97_21 : M9 97 21 = M2 97 21 := eM9_97_21
      obtain ⟨aM9p, kM9p⟩ := pM9
      have tkM9 : TK M9 := kM9p
      clear kM9p
      have tbM9 := tkM9.b
      have vM9_0 : M9 107 cx.toNat = M2 107 cx.toNat := (congrFun (fM90 107 (by decide)) _)
      have vM9_1 : M9 107 (cx + 1).toNat = M2 107 (cx + 1).toNat := (congrFun (fM90 107 (by decide)) _)
      have vM9_2 : M9 107 (cx + 2).toNat = M2 107 (cx + 2).toNat := (congrFun (fM90 107 (by decide)) _)
      have vM9_3 : M9 107 (cx + 3).toNat = M2 107 (cx + 3).toNat := (congrFun (fM90 107 (by decide)) _)
      have vM9_4 : M9 107 (cx + 4).toNat = M2 107 (cx + 4).toNat := (congrFun (fM90 107 (by decide)) _)
      have vM9_7 : M9 107 (cx + 7).toNat = M2 107 (cx + 7).toNat := (congrFun (fM90 107 (by decide)) _)
      have unM9 : UN M M9 cx := UN.nx unM2 (fM90 107 (by decide))
      have loM9 : LO M M9 (M 97 21) := LO.tr loM2 (LO.eq (fM90 108 (by decide)) (fM90 109 (by decide)))
      have k0M9 : M9 107 cx.toNat = hd := vM9_0.trans k0M2
      have nmM9 : M 97 21 ≤ M9 97 21 ∧ M9 97 21 ≤ M9 97 13 ∧ M 97 13 < M9 97 13 := (by omega)
      have nclM9 : M9 97 19 = M 97 19 + 1 := (by omega)
      have k1M9 : K1 (M9 97 18) (M9 107 (cx + 1).toNat) hd := K1.nx k1M2 (by omega) vM9_1
      have k3M9 : M9 107 (cx + 3).toNat = M 97 21 := vM9_3.trans k3M2
      have k4M9 : K4 M9 (M 97 21) (M9 107 (cx + 4).toNat) := K4.nx k4M2 (by omega) (fM90 108 (by decide)) (fM90 109 (by decide)) rfl vM9_4
      have k4nM9 : M9 107 (cx + 4).toNat ≤ M9 97 21 := (by omega)
      have k2M9 : K2 (M9 97 18) (M9 107 (cx + 2).toNat) := K2.nx k2M2 (by omega) vM9_2
      have k7M9 : K7 (M9 97 18) (M9 107 (cx + 7).toNat) := K7.nx k7M2 (by omega) vM9_7
      refine g_aload_n (pc' := 312) 2 dX10_readClause_311 rfl rfl ?_
      refine g_getI (pc' := 315) dX10_readClause_312 rfl f_X10_174 rfl rfl (fun v10 ev10 rv10 => ?_)
      refine g_iconst (pc' := 316) dX10_readClause_315 rfl ?_
      refine g_ic_ne (pc' := 319) (tgt := 332) rv10 (by decide) dX10_readClause_316 rfl rfl (fun c11 => ?_) (fun c11 => ?_)
      · refine g_iconst (pc' := 333) dX10_readClause_332 rfl ?_
        refine g_istore_n (pc' := 334) (i := 3) (L' := [(3, vi 0), (1, vi hd), (2, vi cx), (0, vr X 97)]) dX10_readClause_333 rfl rfl (by decide) rfl ?_
        refine g_iload_n (pc' := 335) 0 dX10_readClause_334 rfl rfl ?_
        refine g_if_eq (pc' := 338) (tgt := 343) (by decide) dX10_readClause_335 rfl rfl (fun c12 => ?_) (fun c12 => ?_)
        · refine g_aload_n (pc' := 344) 3 dX10_readClause_343 rfl rfl ?_
          refine g_getR (pc' := 347) dX10_readClause_344 rfl f_X10_43 rfl rfl ?_
          refine g_iload_n (pc' := 348) 2 dX10_readClause_347 rfl rfl ?_
          refine g_bipush (pc' := 350) (v := 7) dX10_readClause_348 rfl (by decide) ?_
          refine g_iadd (pc' := 351) dX10_readClause_350 rfl ?_
          refine g_aload_n (pc' := 352) 3 dX10_readClause_351 rfl rfl ?_
          refine g_getI (pc' := 355) dX10_readClause_352 rfl f_X10_154 rfl rfl (fun v13 ev13 rv13 => ?_)
          refine g_if_eq (pc' := 358) (tgt := 362) rv13 dX10_readClause_355 rfl rfl (fun c14 => ?_) (fun c14 => ?_)
          · refine g_aload_n (pc' := 363) 3 dX10_readClause_362 rfl rfl ?_
            refine g_bipush (pc' := 365) (v := 20) dX10_readClause_363 rfl (by decide) ?_
            refine g_callVi (pc' := 368) (As := [vi 20]) (b := 97) (S := [vi (cx + 7), vr X 107]) dX10_readClause_365 rfl m_X10_245 w_X10_readNumber (c_X10_readNumber X M9 iM9 20 (by decide) tkM9 (by omega)) rfl ⟨_, _, _, rfl, rfl, rfl⟩ (by decide) (by decide) rfl (Nat.le_of_ble_eq_true rfl) (fun z16 M17 q15 => ?_)
            obtain ⟨iM17, fM170, eM17_97_12, eM17_97_19, eM17_97_21, eM17_97_24, eM17_97_27, eM17_97_28, pM17⟩ := q15
            have fM17 : Fr (fun c => c = 97 ∨ (107 ≤ c ∧ c ≤ 111)) M M17 := Fr.tr fM9 fM170 fi_40
            have q97_12_M17 : (M17 97 12 = M 97 12) := eM17_97_12.trans q97_12_M9
            have wM17_97_19 : M17 97 19 = M9 97 19 := eM17_97_19
            have wM17_97_21 : M17 97 21 = M9 97 21 := eM17_97_21
            obtain ⟨aM17p, bM17p, cM17p, dM17p, kM17p⟩ := pM17
            have tkM17 : TK M17 := kM17p
            clear kM17p
            have tbM17 := tkM17.b
            have vM17_0 : M17 107 cx.toNat = M9 107 cx.toNat := (congrFun (fM170 107 (by decide)) _)
            have vM17_1 : M17 107 (cx + 1).toNat = M9 107 (cx + 1).toNat := (congrFun (fM170 107 (by decide)) _)
            have vM17_2 : M17 107 (cx + 2).toNat = M9 107 (cx + 2).toNat := (congrFun (fM170 107 (by decide)) _)
            have vM17_3 : M17 107 (cx + 3).toNat = M9 107 (cx + 3).toNat := (congrFun (fM170 107 (by decide)) _)
            have vM17_4 : M17 107 (cx + 4).toNat = M9 107 (cx + 4).toNat := (congrFun (fM170 107 (by decide)) _)
            have vM17_7 : M17 107 (cx + 7).toNat = M9 107 (cx + 7).toNat := (congrFun (fM170 107 (by decide)) _)
            have unM17 : UN M M17 cx := UN.nx unM9 (fM170 107 (by decide))
            have loM17 : LO M M17 (M 97 21) := LO.tr loM9 (LO.eq (fM170 108 (by decide)) (fM170 109 (by decide)))
            have k0M17 : M17 107 cx.toNat = hd := vM17_0.trans k0M9
            have nmM17 : M 97 21 ≤ M17 97 21 ∧ M17 97 21 ≤ M17 97 13 ∧ M 97 13 < M17 97 13 := (by omega)
            have nclM17 : M17 97 19 = M 97 19 + 1 := (by omega)
            have k1M17 : K1 (M17 97 18) (M17 107 (cx + 1).toNat) hd := K1.nx k1M9 (by omega) vM17_1
            have k3M17 : M17 107 (cx + 3).toNat = M 97 21 := vM17_3.trans k3M9
            have k4M17 : K4 M17 (M 97 21) (M17 107 (cx + 4).toNat) := K4.nx k4M9 (by omega) (fM170 108 (by decide)) (fM170 109 (by decide)) rfl vM17_4
            have k4nM17 : M17 107 (cx + 4).toNat ≤ M17 97 21 := (by omega)
            have k2M17 : K2 (M17 97 18) (M17 107 (cx + 2).toNat) := K2.nx k2M9 (by omega) vM17_2
            have k7M17 : K7 (M17 97 18) (M17 107 (cx + 7).toNat) := K7.nx k7M9 (by omega) vM17_7
            refine g_iast (pc' := 369) dX10_readClause_368 rfl rfl (by omega) (by omega) ⟨by omega, by omega⟩ (fun M18 hM18 => ?_)
            have iM18 : IM M18 := IM.wr iM17 hM18 (by unfold okv; first | decide | omega)
            have fM18 : Fr (fun c => c = 97 ∨ (107 ≤ c ∧ c ≤ 111)) M M18 := Fr.wr fM17 hM18 (by first | decide | omega | (dsimp only; omega))
            have q97_12_M18 : (M18 97 12 = M 97 12) := (show M18 97 12 = M17 97 12 by rw [hM18]; exact mu_ne _ _ (by first | decide | omega)).trans q97_12_M17
            have wM18_97_13 : M18 97 13 = M17 97 13 := by rw [hM18]; exact mu_ne _ _ (by first | decide | omega)
            have wM18_97_14 : M18 97 14 = M17 97 14 := by rw [hM18]; exact mu_ne _ _ (by first | decide | omega)
            have wM18_97_15 : M18 97 15 = M17 97 15 := by rw [hM18]; exact mu_ne _ _ (by first | decide | omega)
            have wM18_97_16 : M18 97 16 = M17 97 16 := by rw [hM18]; exact mu_ne _ _ (by first | decide | omega)
            have wM18_97_18 : M18 97 18 = M17 97 18 := by rw [hM18]; exact mu_ne _ _ (by first | decide | omega)
            have wM18_97_19 : M18 97 19 = M17 97 19 := by rw [hM18]; exact mu_ne _ _ (by first | decide | omega)
            have wM18_97_21 : M18 97 21 = M17 97 21 := by rw [hM18]; exact mu_ne _ _ (by first | decide | omega)
            have vM18_0 : M18 107 cx.toNat = M17 107 cx.toNat := (by rw [hM18]; exact mu_ne _ _ (by first | decide | omega))
            have vM18_1 : M18 107 (cx + 1).toNat = M17 107 (cx + 1).toNat := (by rw [hM18]; exact mu_ne _ _ (by first | decide | omega))
            have vM18_2 : M18 107 (cx + 2).toNat = M17 107 (cx + 2).toNat := (by rw [hM18]; exact mu_ne _ _ (by first | decide | omega))
            have vM18_3 : M18 107 (cx + 3).toNat = M17 107 (cx + 3).toNat := (by rw [hM18]; exact mu_ne _ _ (by first | decide | omega))
            have vM18_4 : M18 107 (cx + 4).toNat = M17 107 (cx + 4).toNat := (by rw [hM18]; exact mu_ne _ _ (by first | decide | omega))
            have unM18 : UN M M18 cx := UN.wr unM17 hM18 (by omega)
            have loM18 : LO M M18 (M 97 21) := LO.tr loM17 (LO.eq (by rw [hM18, mu_cell _ _ (by decide)]) (by rw [hM18, mu_cell _ _ (by decide)]))
            have tkM18 : TK M18 := TK.eq tkM17 (show M18 97 12 = M17 97 12 by rw [hM18]; exact mu_ne _ _ (by first | decide | omega)) (show M18 97 13 = M17 97 13 by rw [hM18]; exact mu_ne _ _ (by first | decide | omega)) (show M18 97 14 = M17 97 14 by rw [hM18]; exact mu_ne _ _ (by first | decide | omega)) (show M18 97 15 = M17 97 15 by rw [hM18]; exact mu_ne _ _ (by first | decide | omega)) (show M18 97 16 = M17 97 16 by rw [hM18]; exact mu_ne _ _ (by first | decide | omega))
            have k0M18 : M18 107 cx.toNat = hd := vM18_0.trans k0M17
            have nmM18 : M 97 21 ≤ M18 97 21 ∧ M18 97 21 ≤ M18 97 13 ∧ M 97 13 < M18 97 13 := (by omega)
            have nclM18 : M18 97 19 = M 97 19 + 1 := (by omega)
            have k1M18 : K1 (M18 97 18) (M18 107 (cx + 1).toNat) hd := K1.nx k1M17 (by omega) vM18_1
            have k3M18 : M18 107 (cx + 3).toNat = M 97 21 := vM18_3.trans k3M17
            have k4M18 : K4 M18 (M 97 21) (M18 107 (cx + 4).toNat) := K4.nx k4M17 (by omega) (by rw [hM18, mu_cell _ _ (by decide)]) (by rw [hM18, mu_cell _ _ (by decide)]) rfl vM18_4
            have k4nM18 : M18 107 (cx + 4).toNat ≤ M18 97 21 := (by omega)
            have k2M18 : K2 (M18 97 18) (M18 107 (cx + 2).toNat) := K2.nx k2M17 (by omega) vM18_2
            have xM18_7 : M18 107 (cx + 7).toNat = z16 := by rw [hM18]; exact mu_at _ _ _ _
            have k7M18 : K7 (M18 97 18) (M18 107 (cx + 7).toNat) := (by unfold K7; omega)
            refine g_sub [1, 2, 3] rfl ?_
            exact j_X10_readClause_369 X M hi htk hbad hn19 hnc hcl hd cx M18 iM18 fM18 q97_12_M18 (by omega) (by omega) unM18 loM18 tkM18 k0M18 (by omega) (by omega) k1M18 k3M18 k4M18 (by omega) k2M18 k7M18
          · refine g_iconst (pc' := 359) dX10_readClause_358 rfl ?_
            refine g_goto (tgt := 368) dX10_readClause_359 rfl ?_
            refine g_iast (pc' := 369) dX10_readClause_368 rfl rfl (by omega) (by omega) (by decide) (fun M19 hM19 => ?_)
            have iM19 : IM M19 := IM.wr iM9 hM19 (by unfold okv; first | decide | omega)
            have fM19 : Fr (fun c => c = 97 ∨ (107 ≤ c ∧ c ≤ 111)) M M19 := Fr.wr fM9 hM19 (by first | decide | omega | (dsimp only; omega))
            have q97_12_M19 : (M19 97 12 = M 97 12) := (show M19 97 12 = M9 97 12 by rw [hM19]; exact mu_ne _ _ (by first | decide | omega)).trans q97_12_M9
            have wM19_97_13 : M19 97 13 = M9 97 13 := by rw [hM19]; exact mu_ne _ _ (by first | decide | omega)
            have wM19_97_14 : M19 97 14 = M9 97 14 := by rw [hM19]; exact mu_ne _ _ (by first | decide | omega)
            have wM19_97_15 : M19 97 15 = M9 97 15 := by rw [hM19]; exact mu_ne _ _ (by first | decide | omega)
            have wM19_97_16 : M19 97 16 = M9 97 16 := by rw [hM19]; exact mu_ne _ _ (by first | decide | omega)
            have wM19_97_18 : M19 97 18 = M9 97 18 := by rw [hM19]; exact mu_ne _ _ (by first | decide | omega)
            have wM19_97_19 : M19 97 19 = M9 97 19 := by rw [hM19]; exact mu_ne _ _ (by first | decide | omega)
            have wM19_97_21 : M19 97 21 = M9 97 21 := by rw [hM19]; exact mu_ne _ _ (by first | decide | omega)
            have vM19_0 : M19 107 cx.toNat = M9 107 cx.toNat := (by rw [hM19]; exact mu_ne _ _ (by first | decide | omega))
            have vM19_1 : M19 107 (cx + 1).toNat = M9 107 (cx + 1).toNat := (by rw [hM19]; exact mu_ne _ _ (by first | decide | omega))
            have vM19_2 : M19 107 (cx + 2).toNat = M9 107 (cx + 2).toNat := (by rw [hM19]; exact mu_ne _ _ (by first | decide | omega))
            have vM19_3 : M19 107 (cx + 3).toNat = M9 107 (cx + 3).toNat := (by rw [hM19]; exact mu_ne _ _ (by first | decide | omega))
            have vM19_4 : M19 107 (cx + 4).toNat = M9 107 (cx + 4).toNat := (by rw [hM19]; exact mu_ne _ _ (by first | decide | omega))
            have unM19 : UN M M19 cx := UN.wr unM9 hM19 (by omega)
            have loM19 : LO M M19 (M 97 21) := LO.tr loM9 (LO.eq (by rw [hM19, mu_cell _ _ (by decide)]) (by rw [hM19, mu_cell _ _ (by decide)]))
            have tkM19 : TK M19 := TK.eq tkM9 (show M19 97 12 = M9 97 12 by rw [hM19]; exact mu_ne _ _ (by first | decide | omega)) (show M19 97 13 = M9 97 13 by rw [hM19]; exact mu_ne _ _ (by first | decide | omega)) (show M19 97 14 = M9 97 14 by rw [hM19]; exact mu_ne _ _ (by first | decide | omega)) (show M19 97 15 = M9 97 15 by rw [hM19]; exact mu_ne _ _ (by first | decide | omega)) (show M19 97 16 = M9 97 16 by rw [hM19]; exact mu_ne _ _ (by first | decide | omega))
            have k0M19 : M19 107 cx.toNat = hd := vM19_0.trans k0M9
            have nmM19 : M 97 21 ≤ M19 97 21 ∧ M19 97 21 ≤ M19 97 13 ∧ M 97 13 < M19 97 13 := (by omega)
            have nclM19 : M19 97 19 = M 97 19 + 1 := (by omega)
            have k1M19 : K1 (M19 97 18) (M19 107 (cx + 1).toNat) hd := K1.nx k1M9 (by omega) vM19_1
            have k3M19 : M19 107 (cx + 3).toNat = M 97 21 := vM19_3.trans k3M9
            have k4M19 : K4 M19 (M 97 21) (M19 107 (cx + 4).toNat) := K4.nx k4M9 (by omega) (by rw [hM19, mu_cell _ _ (by decide)]) (by rw [hM19, mu_cell _ _ (by decide)]) rfl vM19_4
            have k4nM19 : M19 107 (cx + 4).toNat ≤ M19 97 21 := (by omega)
            have k2M19 : K2 (M19 97 18) (M19 107 (cx + 2).toNat) := K2.nx k2M9 (by omega) vM19_2
            have xM19_7 : M19 107 (cx + 7).toNat = 0 := by rw [hM19]; exact mu_at _ _ _ _
            have k7M19 : K7 (M19 97 18) (M19 107 (cx + 7).toNat) := (by unfold K7; omega)
            refine g_sub [1, 2, 3] rfl ?_
            exact j_X10_readClause_369 X M hi htk hbad hn19 hnc hcl hd cx M19 iM19 fM19 q97_12_M19 (by omega) (by omega) unM19 loM19 tkM19 k0M19 (by omega) (by omega) k1M19 k3M19 k4M19 (by omega) k2M19 k7M19
        · exact absurd c12 (by omega)
      · refine g_aload_n (pc' := 320) 2 dX10_readClause_319 rfl rfl ?_
        refine g_getL (pc' := 323) dX10_readClause_320 rfl f_X10_164 rfl rfl (fun v20 ev20 rv20 => ?_)
        refine g_lconst (pc' := 324) (v := 0) dX10_readClause_323 rfl (by decide) ?_
        refine g_lc_ne (pc' := 328) (tgt := 332) rv20 (by decide) dX10_readClause_324 dX10_readClause_325 rfl rfl (fun c21 => ?_) (fun c21 => ?_)
        · refine g_iconst (pc' := 333) dX10_readClause_332 rfl ?_
          refine g_istore_n (pc' := 334) (i := 3) (L' := [(3, vi 0), (1, vi hd), (2, vi cx), (0, vr X 97)]) dX10_readClause_333 rfl rfl (by decide) rfl ?_
          refine g_iload_n (pc' := 335) 0 dX10_readClause_334 rfl rfl ?_
          refine g_if_eq (pc' := 338) (tgt := 343) (by decide) dX10_readClause_335 rfl rfl (fun c22 => ?_) (fun c22 => ?_)
          · refine g_aload_n (pc' := 344) 3 dX10_readClause_343 rfl rfl ?_
            refine g_getR (pc' := 347) dX10_readClause_344 rfl f_X10_43 rfl rfl ?_
            refine g_iload_n (pc' := 348) 2 dX10_readClause_347 rfl rfl ?_
            refine g_bipush (pc' := 350) (v := 7) dX10_readClause_348 rfl (by decide) ?_
            refine g_iadd (pc' := 351) dX10_readClause_350 rfl ?_
            refine g_aload_n (pc' := 352) 3 dX10_readClause_351 rfl rfl ?_
            refine g_getI (pc' := 355) dX10_readClause_352 rfl f_X10_154 rfl rfl (fun v23 ev23 rv23 => ?_)
            refine g_if_eq (pc' := 358) (tgt := 362) rv23 dX10_readClause_355 rfl rfl (fun c24 => ?_) (fun c24 => ?_)
            · refine g_aload_n (pc' := 363) 3 dX10_readClause_362 rfl rfl ?_
              refine g_bipush (pc' := 365) (v := 20) dX10_readClause_363 rfl (by decide) ?_
              refine g_callVi (pc' := 368) (As := [vi 20]) (b := 97) (S := [vi (cx + 7), vr X 107]) dX10_readClause_365 rfl m_X10_245 w_X10_readNumber (c_X10_readNumber X M9 iM9 20 (by decide) tkM9 (by omega)) rfl ⟨_, _, _, rfl, rfl, rfl⟩ (by decide) (by decide) rfl (Nat.le_of_ble_eq_true rfl) (fun z26 M27 q25 => ?_)
              obtain ⟨iM27, fM270, eM27_97_12, eM27_97_19, eM27_97_21, eM27_97_24, eM27_97_27, eM27_97_28, pM27⟩ := q25
              have fM27 : Fr (fun c => c = 97 ∨ (107 ≤ c ∧ c ≤ 111)) M M27 := Fr.tr fM9 fM270 fi_40
              have q97_12_M27 : (M27 97 12 = M 97 12) := eM27_97_12.trans q97_12_M9
              have wM27_97_19 : M27 97 19 = M9 97 19 := eM27_97_19
              have wM27_97_21 : M27 97 21 = M9 97 21 := eM27_97_21
              obtain ⟨aM27p, bM27p, cM27p, dM27p, kM27p⟩ := pM27
              have tkM27 : TK M27 := kM27p
              clear kM27p
              have tbM27 := tkM27.b
              have vM27_0 : M27 107 cx.toNat = M9 107 cx.toNat := (congrFun (fM270 107 (by decide)) _)
              have vM27_1 : M27 107 (cx + 1).toNat = M9 107 (cx + 1).toNat := (congrFun (fM270 107 (by decide)) _)
              have vM27_2 : M27 107 (cx + 2).toNat = M9 107 (cx + 2).toNat := (congrFun (fM270 107 (by decide)) _)
              have vM27_3 : M27 107 (cx + 3).toNat = M9 107 (cx + 3).toNat := (congrFun (fM270 107 (by decide)) _)
              have vM27_4 : M27 107 (cx + 4).toNat = M9 107 (cx + 4).toNat := (congrFun (fM270 107 (by decide)) _)
              have vM27_7 : M27 107 (cx + 7).toNat = M9 107 (cx + 7).toNat := (congrFun (fM270 107 (by decide)) _)
              have unM27 : UN M M27 cx := UN.nx unM9 (fM270 107 (by decide))
              have loM27 : LO M M27 (M 97 21) := LO.tr loM9 (LO.eq (fM270 108 (by decide)) (fM270 109 (by decide)))
              have k0M27 : M27 107 cx.toNat = hd := vM27_0.trans k0M9
              have nmM27 : M 97 21 ≤ M27 97 21 ∧ M27 97 21 ≤ M27 97 13 ∧ M 97 13 < M27 97 13 := (by omega)
              have nclM27 : M27 97 19 = M 97 19 + 1 := (by omega)
              have k1M27 : K1 (M27 97 18) (M27 107 (cx + 1).toNat) hd := K1.nx k1M9 (by omega) vM27_1
              have k3M27 : M27 107 (cx + 3).toNat = M 97 21 := vM27_3.trans k3M9
              have k4M27 : K4 M27 (M 97 21) (M27 107 (cx + 4).toNat) := K4.nx k4M9 (by omega) (fM270 108 (by decide)) (fM270 109 (by decide)) rfl vM27_4
              have k4nM27 : M27 107 (cx + 4).toNat ≤ M27 97 21 := (by omega)
              have k2M27 : K2 (M27 97 18) (M27 107 (cx + 2).toNat) := K2.nx k2M9 (by omega) vM27_2
              have k7M27 : K7 (M27 97 18) (M27 107 (cx + 7).toNat) := K7.nx k7M9 (by omega) vM27_7
              refine g_iast (pc' := 369) dX10_readClause_368 rfl rfl (by omega) (by omega) ⟨by omega, by omega⟩ (fun M28 hM28 => ?_)
              have iM28 : IM M28 := IM.wr iM27 hM28 (by unfold okv; first | decide | omega)
              have fM28 : Fr (fun c => c = 97 ∨ (107 ≤ c ∧ c ≤ 111)) M M28 := Fr.wr fM27 hM28 (by first | decide | omega | (dsimp only; omega))
              have q97_12_M28 : (M28 97 12 = M 97 12) := (show M28 97 12 = M27 97 12 by rw [hM28]; exact mu_ne _ _ (by first | decide | omega)).trans q97_12_M27
              have wM28_97_13 : M28 97 13 = M27 97 13 := by rw [hM28]; exact mu_ne _ _ (by first | decide | omega)
              have wM28_97_14 : M28 97 14 = M27 97 14 := by rw [hM28]; exact mu_ne _ _ (by first | decide | omega)
              have wM28_97_15 : M28 97 15 = M27 97 15 := by rw [hM28]; exact mu_ne _ _ (by first | decide | omega)
              have wM28_97_16 : M28 97 16 = M27 97 16 := by rw [hM28]; exact mu_ne _ _ (by first | decide | omega)
              have wM28_97_18 : M28 97 18 = M27 97 18 := by rw [hM28]; exact mu_ne _ _ (by first | decide | omega)
              have wM28_97_19 : M28 97 19 = M27 97 19 := by rw [hM28]; exact mu_ne _ _ (by first | decide | omega)
              have wM28_97_21 : M28 97 21 = M27 97 21 := by rw [hM28]; exact mu_ne _ _ (by first | decide | omega)
              have vM28_0 : M28 107 cx.toNat = M27 107 cx.toNat := (by rw [hM28]; exact mu_ne _ _ (by first | decide | omega))
              have vM28_1 : M28 107 (cx + 1).toNat = M27 107 (cx + 1).toNat := (by rw [hM28]; exact mu_ne _ _ (by first | decide | omega))
              have vM28_2 : M28 107 (cx + 2).toNat = M27 107 (cx + 2).toNat := (by rw [hM28]; exact mu_ne _ _ (by first | decide | omega))
              have vM28_3 : M28 107 (cx + 3).toNat = M27 107 (cx + 3).toNat := (by rw [hM28]; exact mu_ne _ _ (by first | decide | omega))
              have vM28_4 : M28 107 (cx + 4).toNat = M27 107 (cx + 4).toNat := (by rw [hM28]; exact mu_ne _ _ (by first | decide | omega))
              have unM28 : UN M M28 cx := UN.wr unM27 hM28 (by omega)
              have loM28 : LO M M28 (M 97 21) := LO.tr loM27 (LO.eq (by rw [hM28, mu_cell _ _ (by decide)]) (by rw [hM28, mu_cell _ _ (by decide)]))
              have tkM28 : TK M28 := TK.eq tkM27 (show M28 97 12 = M27 97 12 by rw [hM28]; exact mu_ne _ _ (by first | decide | omega)) (show M28 97 13 = M27 97 13 by rw [hM28]; exact mu_ne _ _ (by first | decide | omega)) (show M28 97 14 = M27 97 14 by rw [hM28]; exact mu_ne _ _ (by first | decide | omega)) (show M28 97 15 = M27 97 15 by rw [hM28]; exact mu_ne _ _ (by first | decide | omega)) (show M28 97 16 = M27 97 16 by rw [hM28]; exact mu_ne _ _ (by first | decide | omega))
              have k0M28 : M28 107 cx.toNat = hd := vM28_0.trans k0M27
              have nmM28 : M 97 21 ≤ M28 97 21 ∧ M28 97 21 ≤ M28 97 13 ∧ M 97 13 < M28 97 13 := (by omega)
              have nclM28 : M28 97 19 = M 97 19 + 1 := (by omega)
              have k1M28 : K1 (M28 97 18) (M28 107 (cx + 1).toNat) hd := K1.nx k1M27 (by omega) vM28_1
              have k3M28 : M28 107 (cx + 3).toNat = M 97 21 := vM28_3.trans k3M27
              have k4M28 : K4 M28 (M 97 21) (M28 107 (cx + 4).toNat) := K4.nx k4M27 (by omega) (by rw [hM28, mu_cell _ _ (by decide)]) (by rw [hM28, mu_cell _ _ (by decide)]) rfl vM28_4
              have k4nM28 : M28 107 (cx + 4).toNat ≤ M28 97 21 := (by omega)
              have k2M28 : K2 (M28 97 18) (M28 107 (cx + 2).toNat) := K2.nx k2M27 (by omega) vM28_2
              have xM28_7 : M28 107 (cx + 7).toNat = z26 := by rw [hM28]; exact mu_at _ _ _ _
              have k7M28 : K7 (M28 97 18) (M28 107 (cx + 7).toNat) := (by unfold K7; omega)
              refine g_sub [1, 2, 3] rfl ?_
              exact j_X10_readClause_369 X M hi htk hbad hn19 hnc hcl hd cx M28 iM28 fM28 q97_12_M28 (by omega) (by omega) unM28 loM28 tkM28 k0M28 (by omega) (by omega) k1M28 k3M28 k4M28 (by omega) k2M28 k7M28
            · refine g_iconst (pc' := 359) dX10_readClause_358 rfl ?_
              refine g_goto (tgt := 368) dX10_readClause_359 rfl ?_
              refine g_iast (pc' := 369) dX10_readClause_368 rfl rfl (by omega) (by omega) (by decide) (fun M29 hM29 => ?_)
              have iM29 : IM M29 := IM.wr iM9 hM29 (by unfold okv; first | decide | omega)
              have fM29 : Fr (fun c => c = 97 ∨ (107 ≤ c ∧ c ≤ 111)) M M29 := Fr.wr fM9 hM29 (by first | decide | omega | (dsimp only; omega))
              have q97_12_M29 : (M29 97 12 = M 97 12) := (show M29 97 12 = M9 97 12 by rw [hM29]; exact mu_ne _ _ (by first | decide | omega)).trans q97_12_M9
              have wM29_97_13 : M29 97 13 = M9 97 13 := by rw [hM29]; exact mu_ne _ _ (by first | decide | omega)
              have wM29_97_14 : M29 97 14 = M9 97 14 := by rw [hM29]; exact mu_ne _ _ (by first | decide | omega)
              have wM29_97_15 : M29 97 15 = M9 97 15 := by rw [hM29]; exact mu_ne _ _ (by first | decide | omega)
              have wM29_97_16 : M29 97 16 = M9 97 16 := by rw [hM29]; exact mu_ne _ _ (by first | decide | omega)
              have wM29_97_18 : M29 97 18 = M9 97 18 := by rw [hM29]; exact mu_ne _ _ (by first | decide | omega)
              have wM29_97_19 : M29 97 19 = M9 97 19 := by rw [hM29]; exact mu_ne _ _ (by first | decide | omega)
              have wM29_97_21 : M29 97 21 = M9 97 21 := by rw [hM29]; exact mu_ne _ _ (by first | decide | omega)
              have vM29_0 : M29 107 cx.toNat = M9 107 cx.toNat := (by rw [hM29]; exact mu_ne _ _ (by first | decide | omega))
              have vM29_1 : M29 107 (cx + 1).toNat = M9 107 (cx + 1).toNat := (by rw [hM29]; exact mu_ne _ _ (by first | decide | omega))
              have vM29_2 : M29 107 (cx + 2).toNat = M9 107 (cx + 2).toNat := (by rw [hM29]; exact mu_ne _ _ (by first | decide | omega))
              have vM29_3 : M29 107 (cx + 3).toNat = M9 107 (cx + 3).toNat := (by rw [hM29]; exact mu_ne _ _ (by first | decide | omega))
              have vM29_4 : M29 107 (cx + 4).toNat = M9 107 (cx + 4).toNat := (by rw [hM29]; exact mu_ne _ _ (by first | decide | omega))
              have unM29 : UN M M29 cx := UN.wr unM9 hM29 (by omega)
              have loM29 : LO M M29 (M 97 21) := LO.tr loM9 (LO.eq (by rw [hM29, mu_cell _ _ (by decide)]) (by rw [hM29, mu_cell _ _ (by decide)]))
              have tkM29 : TK M29 := TK.eq tkM9 (show M29 97 12 = M9 97 12 by rw [hM29]; exact mu_ne _ _ (by first | decide | omega)) (show M29 97 13 = M9 97 13 by rw [hM29]; exact mu_ne _ _ (by first | decide | omega)) (show M29 97 14 = M9 97 14 by rw [hM29]; exact mu_ne _ _ (by first | decide | omega)) (show M29 97 15 = M9 97 15 by rw [hM29]; exact mu_ne _ _ (by first | decide | omega)) (show M29 97 16 = M9 97 16 by rw [hM29]; exact mu_ne _ _ (by first | decide | omega))
              have k0M29 : M29 107 cx.toNat = hd := vM29_0.trans k0M9
              have nmM29 : M 97 21 ≤ M29 97 21 ∧ M29 97 21 ≤ M29 97 13 ∧ M 97 13 < M29 97 13 := (by omega)
              have nclM29 : M29 97 19 = M 97 19 + 1 := (by omega)
              have k1M29 : K1 (M29 97 18) (M29 107 (cx + 1).toNat) hd := K1.nx k1M9 (by omega) vM29_1
              have k3M29 : M29 107 (cx + 3).toNat = M 97 21 := vM29_3.trans k3M9
              have k4M29 : K4 M29 (M 97 21) (M29 107 (cx + 4).toNat) := K4.nx k4M9 (by omega) (by rw [hM29, mu_cell _ _ (by decide)]) (by rw [hM29, mu_cell _ _ (by decide)]) rfl vM29_4
              have k4nM29 : M29 107 (cx + 4).toNat ≤ M29 97 21 := (by omega)
              have k2M29 : K2 (M29 97 18) (M29 107 (cx + 2).toNat) := K2.nx k2M9 (by omega) vM29_2
              have xM29_7 : M29 107 (cx + 7).toNat = 0 := by rw [hM29]; exact mu_at _ _ _ _
              have k7M29 : K7 (M29 97 18) (M29 107 (cx + 7).toNat) := (by unfold K7; omega)
              refine g_sub [1, 2, 3] rfl ?_
              exact j_X10_readClause_369 X M hi htk hbad hn19 hnc hcl hd cx M29 iM29 fM29 q97_12_M29 (by omega) (by omega) unM29 loM29 tkM29 k0M29 (by omega) (by omega) k1M29 k3M29 k4M29 (by omega) k2M29 k7M29
          · exact absurd c22 (by omega)
        · refine g_iconst (pc' := 329) dX10_readClause_328 rfl ?_
          refine g_goto (tgt := 333) dX10_readClause_329 rfl ?_
          refine g_istore_n (pc' := 334) (i := 3) (L' := [(3, vi 1), (1, vi hd), (2, vi cx), (0, vr X 97)]) dX10_readClause_333 rfl rfl (by decide) rfl ?_
          refine g_iload_n (pc' := 335) 0 dX10_readClause_334 rfl rfl ?_
          refine g_if_eq (pc' := 338) (tgt := 343) (by decide) dX10_readClause_335 rfl rfl (fun c30 => ?_) (fun c30 => ?_)
          · exact absurd c30 (by omega)
          · refine g_aload_n (pc' := 339) 3 dX10_readClause_338 rfl rfl ?_
            refine g_iconst (pc' := 340) dX10_readClause_339 rfl ?_
            refine g_callVv (pc' := 343) (As := [vi 0]) (b := 97) (S := []) dX10_readClause_340 rfl m_X10_187 w_X10_must (c_X10_must X M9 iM9 0 (by decide) tkM9) rfl ⟨_, _, _, rfl, rfl, rfl⟩ (by decide) (by decide) rfl (Nat.le_of_ble_eq_true rfl) (fun M32 q31 => ?_)
            obtain ⟨iM32, fM320, eM32_97_12, eM32_97_19, eM32_97_21, eM32_97_24, eM32_97_27, eM32_97_28, pM32⟩ := q31
            have fM32 : Fr (fun c => c = 97 ∨ (107 ≤ c ∧ c ≤ 111)) M M32 := Fr.tr fM9 fM320 fi_40
            have q97_12_M32 : (M32 97 12 = M 97 12) := eM32_97_12.trans q97_12_M9
            have wM32_97_19 : M32 97 19 = M9 97 19 := eM32_97_19
            have wM32_97_21 : M32 97 21 = M9 97 21 := eM32_97_21
            obtain ⟨aM32p, bM32p, cM32p, kM32p⟩ := pM32
            have tkM32 : TK M32 := kM32p
            clear kM32p
            have tbM32 := tkM32.b
            have vM32_0 : M32 107 cx.toNat = M9 107 cx.toNat := (congrFun (fM320 107 (by decide)) _)
            have vM32_1 : M32 107 (cx + 1).toNat = M9 107 (cx + 1).toNat := (congrFun (fM320 107 (by decide)) _)
            have vM32_2 : M32 107 (cx + 2).toNat = M9 107 (cx + 2).toNat := (congrFun (fM320 107 (by decide)) _)
            have vM32_3 : M32 107 (cx + 3).toNat = M9 107 (cx + 3).toNat := (congrFun (fM320 107 (by decide)) _)
            have vM32_4 : M32 107 (cx + 4).toNat = M9 107 (cx + 4).toNat := (congrFun (fM320 107 (by decide)) _)
            have vM32_7 : M32 107 (cx + 7).toNat = M9 107 (cx + 7).toNat := (congrFun (fM320 107 (by decide)) _)
            have unM32 : UN M M32 cx := UN.nx unM9 (fM320 107 (by decide))
            have loM32 : LO M M32 (M 97 21) := LO.tr loM9 (LO.eq (fM320 108 (by decide)) (fM320 109 (by decide)))
            have k0M32 : M32 107 cx.toNat = hd := vM32_0.trans k0M9
            have nmM32 : M 97 21 ≤ M32 97 21 ∧ M32 97 21 ≤ M32 97 13 ∧ M 97 13 < M32 97 13 := (by omega)
            have nclM32 : M32 97 19 = M 97 19 + 1 := (by omega)
            have k1M32 : K1 (M32 97 18) (M32 107 (cx + 1).toNat) hd := K1.nx k1M9 (by omega) vM32_1
            have k3M32 : M32 107 (cx + 3).toNat = M 97 21 := vM32_3.trans k3M9
            have k4M32 : K4 M32 (M 97 21) (M32 107 (cx + 4).toNat) := K4.nx k4M9 (by omega) (fM320 108 (by decide)) (fM320 109 (by decide)) rfl vM32_4
            have k4nM32 : M32 107 (cx + 4).toNat ≤ M32 97 21 := (by omega)
            have k2M32 : K2 (M32 97 18) (M32 107 (cx + 2).toNat) := K2.nx k2M9 (by omega) vM32_2
            have k7M32 : K7 (M32 97 18) (M32 107 (cx + 7).toNat) := K7.nx k7M9 (by omega) vM32_7
            refine g_aload_n (pc' := 344) 3 dX10_readClause_343 rfl rfl ?_
            refine g_getR (pc' := 347) dX10_readClause_344 rfl f_X10_43 rfl rfl ?_
            refine g_iload_n (pc' := 348) 2 dX10_readClause_347 rfl rfl ?_
            refine g_bipush (pc' := 350) (v := 7) dX10_readClause_348 rfl (by decide) ?_
            refine g_iadd (pc' := 351) dX10_readClause_350 rfl ?_
            refine g_aload_n (pc' := 352) 3 dX10_readClause_351 rfl rfl ?_
            refine g_getI (pc' := 355) dX10_readClause_352 rfl f_X10_154 rfl rfl (fun v33 ev33 rv33 => ?_)
            refine g_if_eq (pc' := 358) (tgt := 362) rv33 dX10_readClause_355 rfl rfl (fun c34 => ?_) (fun c34 => ?_)
            · refine g_aload_n (pc' := 363) 3 dX10_readClause_362 rfl rfl ?_
              refine g_bipush (pc' := 365) (v := 20) dX10_readClause_363 rfl (by decide) ?_
              refine g_callVi (pc' := 368) (As := [vi 20]) (b := 97) (S := [vi (cx + 7), vr X 107]) dX10_readClause_365 rfl m_X10_245 w_X10_readNumber (c_X10_readNumber X M32 iM32 20 (by decide) tkM32 (by omega)) rfl ⟨_, _, _, rfl, rfl, rfl⟩ (by decide) (by decide) rfl (Nat.le_of_ble_eq_true rfl) (fun z36 M37 q35 => ?_)
              obtain ⟨iM37, fM370, eM37_97_12, eM37_97_19, eM37_97_21, eM37_97_24, eM37_97_27, eM37_97_28, pM37⟩ := q35
              have fM37 : Fr (fun c => c = 97 ∨ (107 ≤ c ∧ c ≤ 111)) M M37 := Fr.tr fM32 fM370 fi_40
              have q97_12_M37 : (M37 97 12 = M 97 12) := eM37_97_12.trans q97_12_M32
              have wM37_97_19 : M37 97 19 = M32 97 19 := eM37_97_19
              have wM37_97_21 : M37 97 21 = M32 97 21 := eM37_97_21
              obtain ⟨aM37p, bM37p, cM37p, dM37p, kM37p⟩ := pM37
              have tkM37 : TK M37 := kM37p
              clear kM37p
              have tbM37 := tkM37.b
              have vM37_0 : M37 107 cx.toNat = M32 107 cx.toNat := (congrFun (fM370 107 (by decide)) _)
              have vM37_1 : M37 107 (cx + 1).toNat = M32 107 (cx + 1).toNat := (congrFun (fM370 107 (by decide)) _)
              have vM37_2 : M37 107 (cx + 2).toNat = M32 107 (cx + 2).toNat := (congrFun (fM370 107 (by decide)) _)
              have vM37_3 : M37 107 (cx + 3).toNat = M32 107 (cx + 3).toNat := (congrFun (fM370 107 (by decide)) _)
              have vM37_4 : M37 107 (cx + 4).toNat = M32 107 (cx + 4).toNat := (congrFun (fM370 107 (by decide)) _)
              have vM37_7 : M37 107 (cx + 7).toNat = M32 107 (cx + 7).toNat := (congrFun (fM370 107 (by decide)) _)
              have unM37 : UN M M37 cx := UN.nx unM32 (fM370 107 (by decide))
              have loM37 : LO M M37 (M 97 21) := LO.tr loM32 (LO.eq (fM370 108 (by decide)) (fM370 109 (by decide)))
              have k0M37 : M37 107 cx.toNat = hd := vM37_0.trans k0M32
              have nmM37 : M 97 21 ≤ M37 97 21 ∧ M37 97 21 ≤ M37 97 13 ∧ M 97 13 < M37 97 13 := (by omega)
              have nclM37 : M37 97 19 = M 97 19 + 1 := (by omega)
              have k1M37 : K1 (M37 97 18) (M37 107 (cx + 1).toNat) hd := K1.nx k1M32 (by omega) vM37_1
              have k3M37 : M37 107 (cx + 3).toNat = M 97 21 := vM37_3.trans k3M32
              have k4M37 : K4 M37 (M 97 21) (M37 107 (cx + 4).toNat) := K4.nx k4M32 (by omega) (fM370 108 (by decide)) (fM370 109 (by decide)) rfl vM37_4
              have k4nM37 : M37 107 (cx + 4).toNat ≤ M37 97 21 := (by omega)
              have k2M37 : K2 (M37 97 18) (M37 107 (cx + 2).toNat) := K2.nx k2M32 (by omega) vM37_2
              have k7M37 : K7 (M37 97 18) (M37 107 (cx + 7).toNat) := K7.nx k7M32 (by omega) vM37_7
              refine g_iast (pc' := 369) dX10_readClause_368 rfl rfl (by omega) (by omega) ⟨by omega, by omega⟩ (fun M38 hM38 => ?_)
              have iM38 : IM M38 := IM.wr iM37 hM38 (by unfold okv; first | decide | omega)
              have fM38 : Fr (fun c => c = 97 ∨ (107 ≤ c ∧ c ≤ 111)) M M38 := Fr.wr fM37 hM38 (by first | decide | omega | (dsimp only; omega))
              have q97_12_M38 : (M38 97 12 = M 97 12) := (show M38 97 12 = M37 97 12 by rw [hM38]; exact mu_ne _ _ (by first | decide | omega)).trans q97_12_M37
              have wM38_97_13 : M38 97 13 = M37 97 13 := by rw [hM38]; exact mu_ne _ _ (by first | decide | omega)
              have wM38_97_14 : M38 97 14 = M37 97 14 := by rw [hM38]; exact mu_ne _ _ (by first | decide | omega)
              have wM38_97_15 : M38 97 15 = M37 97 15 := by rw [hM38]; exact mu_ne _ _ (by first | decide | omega)
              have wM38_97_16 : M38 97 16 = M37 97 16 := by rw [hM38]; exact mu_ne _ _ (by first | decide | omega)
              have wM38_97_18 : M38 97 18 = M37 97 18 := by rw [hM38]; exact mu_ne _ _ (by first | decide | omega)
              have wM38_97_19 : M38 97 19 = M37 97 19 := by rw [hM38]; exact mu_ne _ _ (by first | decide | omega)
              have wM38_97_21 : M38 97 21 = M37 97 21 := by rw [hM38]; exact mu_ne _ _ (by first | decide | omega)
              have vM38_0 : M38 107 cx.toNat = M37 107 cx.toNat := (by rw [hM38]; exact mu_ne _ _ (by first | decide | omega))
              have vM38_1 : M38 107 (cx + 1).toNat = M37 107 (cx + 1).toNat := (by rw [hM38]; exact mu_ne _ _ (by first | decide | omega))
              have vM38_2 : M38 107 (cx + 2).toNat = M37 107 (cx + 2).toNat := (by rw [hM38]; exact mu_ne _ _ (by first | decide | omega))
              have vM38_3 : M38 107 (cx + 3).toNat = M37 107 (cx + 3).toNat := (by rw [hM38]; exact mu_ne _ _ (by first | decide | omega))
              have vM38_4 : M38 107 (cx + 4).toNat = M37 107 (cx + 4).toNat := (by rw [hM38]; exact mu_ne _ _ (by first | decide | omega))
              have unM38 : UN M M38 cx := UN.wr unM37 hM38 (by omega)
              have loM38 : LO M M38 (M 97 21) := LO.tr loM37 (LO.eq (by rw [hM38, mu_cell _ _ (by decide)]) (by rw [hM38, mu_cell _ _ (by decide)]))
              have tkM38 : TK M38 := TK.eq tkM37 (show M38 97 12 = M37 97 12 by rw [hM38]; exact mu_ne _ _ (by first | decide | omega)) (show M38 97 13 = M37 97 13 by rw [hM38]; exact mu_ne _ _ (by first | decide | omega)) (show M38 97 14 = M37 97 14 by rw [hM38]; exact mu_ne _ _ (by first | decide | omega)) (show M38 97 15 = M37 97 15 by rw [hM38]; exact mu_ne _ _ (by first | decide | omega)) (show M38 97 16 = M37 97 16 by rw [hM38]; exact mu_ne _ _ (by first | decide | omega))
              have k0M38 : M38 107 cx.toNat = hd := vM38_0.trans k0M37
              have nmM38 : M 97 21 ≤ M38 97 21 ∧ M38 97 21 ≤ M38 97 13 ∧ M 97 13 < M38 97 13 := (by omega)
              have nclM38 : M38 97 19 = M 97 19 + 1 := (by omega)
              have k1M38 : K1 (M38 97 18) (M38 107 (cx + 1).toNat) hd := K1.nx k1M37 (by omega) vM38_1
              have k3M38 : M38 107 (cx + 3).toNat = M 97 21 := vM38_3.trans k3M37
              have k4M38 : K4 M38 (M 97 21) (M38 107 (cx + 4).toNat) := K4.nx k4M37 (by omega) (by rw [hM38, mu_cell _ _ (by decide)]) (by rw [hM38, mu_cell _ _ (by decide)]) rfl vM38_4
              have k4nM38 : M38 107 (cx + 4).toNat ≤ M38 97 21 := (by omega)
              have k2M38 : K2 (M38 97 18) (M38 107 (cx + 2).toNat) := K2.nx k2M37 (by omega) vM38_2
              have xM38_7 : M38 107 (cx + 7).toNat = z36 := by rw [hM38]; exact mu_at _ _ _ _
              have k7M38 : K7 (M38 97 18) (M38 107 (cx + 7).toNat) := (by unfold K7; omega)
              refine g_sub [1, 2, 3] rfl ?_
              exact j_X10_readClause_369 X M hi htk hbad hn19 hnc hcl hd cx M38 iM38 fM38 q97_12_M38 (by omega) (by omega) unM38 loM38 tkM38 k0M38 (by omega) (by omega) k1M38 k3M38 k4M38 (by omega) k2M38 k7M38
            · refine g_iconst (pc' := 359) dX10_readClause_358 rfl ?_
              refine g_goto (tgt := 368) dX10_readClause_359 rfl ?_
              refine g_iast (pc' := 369) dX10_readClause_368 rfl rfl (by omega) (by omega) (by decide) (fun M39 hM39 => ?_)
              have iM39 : IM M39 := IM.wr iM32 hM39 (by unfold okv; first | decide | omega)
              have fM39 : Fr (fun c => c = 97 ∨ (107 ≤ c ∧ c ≤ 111)) M M39 := Fr.wr fM32 hM39 (by first | decide | omega | (dsimp only; omega))
              have q97_12_M39 : (M39 97 12 = M 97 12) := (show M39 97 12 = M32 97 12 by rw [hM39]; exact mu_ne _ _ (by first | decide | omega)).trans q97_12_M32
              have wM39_97_13 : M39 97 13 = M32 97 13 := by rw [hM39]; exact mu_ne _ _ (by first | decide | omega)
              have wM39_97_14 : M39 97 14 = M32 97 14 := by rw [hM39]; exact mu_ne _ _ (by first | decide | omega)
              have wM39_97_15 : M39 97 15 = M32 97 15 := by rw [hM39]; exact mu_ne _ _ (by first | decide | omega)
              have wM39_97_16 : M39 97 16 = M32 97 16 := by rw [hM39]; exact mu_ne _ _ (by first | decide | omega)
              have wM39_97_18 : M39 97 18 = M32 97 18 := by rw [hM39]; exact mu_ne _ _ (by first | decide | omega)
              have wM39_97_19 : M39 97 19 = M32 97 19 := by rw [hM39]; exact mu_ne _ _ (by first | decide | omega)
              have wM39_97_21 : M39 97 21 = M32 97 21 := by rw [hM39]; exact mu_ne _ _ (by first | decide | omega)
              have vM39_0 : M39 107 cx.toNat = M32 107 cx.toNat := (by rw [hM39]; exact mu_ne _ _ (by first | decide | omega))
              have vM39_1 : M39 107 (cx + 1).toNat = M32 107 (cx + 1).toNat := (by rw [hM39]; exact mu_ne _ _ (by first | decide | omega))
              have vM39_2 : M39 107 (cx + 2).toNat = M32 107 (cx + 2).toNat := (by rw [hM39]; exact mu_ne _ _ (by first | decide | omega))
              have vM39_3 : M39 107 (cx + 3).toNat = M32 107 (cx + 3).toNat := (by rw [hM39]; exact mu_ne _ _ (by first | decide | omega))
              have vM39_4 : M39 107 (cx + 4).toNat = M32 107 (cx + 4).toNat := (by rw [hM39]; exact mu_ne _ _ (by first | decide | omega))
              have unM39 : UN M M39 cx := UN.wr unM32 hM39 (by omega)
              have loM39 : LO M M39 (M 97 21) := LO.tr loM32 (LO.eq (by rw [hM39, mu_cell _ _ (by decide)]) (by rw [hM39, mu_cell _ _ (by decide)]))
              have tkM39 : TK M39 := TK.eq tkM32 (show M39 97 12 = M32 97 12 by rw [hM39]; exact mu_ne _ _ (by first | decide | omega)) (show M39 97 13 = M32 97 13 by rw [hM39]; exact mu_ne _ _ (by first | decide | omega)) (show M39 97 14 = M32 97 14 by rw [hM39]; exact mu_ne _ _ (by first | decide | omega)) (show M39 97 15 = M32 97 15 by rw [hM39]; exact mu_ne _ _ (by first | decide | omega)) (show M39 97 16 = M32 97 16 by rw [hM39]; exact mu_ne _ _ (by first | decide | omega))
              have k0M39 : M39 107 cx.toNat = hd := vM39_0.trans k0M32
              have nmM39 : M 97 21 ≤ M39 97 21 ∧ M39 97 21 ≤ M39 97 13 ∧ M 97 13 < M39 97 13 := (by omega)
              have nclM39 : M39 97 19 = M 97 19 + 1 := (by omega)
              have k1M39 : K1 (M39 97 18) (M39 107 (cx + 1).toNat) hd := K1.nx k1M32 (by omega) vM39_1
              have k3M39 : M39 107 (cx + 3).toNat = M 97 21 := vM39_3.trans k3M32
              have k4M39 : K4 M39 (M 97 21) (M39 107 (cx + 4).toNat) := K4.nx k4M32 (by omega) (by rw [hM39, mu_cell _ _ (by decide)]) (by rw [hM39, mu_cell _ _ (by decide)]) rfl vM39_4
              have k4nM39 : M39 107 (cx + 4).toNat ≤ M39 97 21 := (by omega)
              have k2M39 : K2 (M39 97 18) (M39 107 (cx + 2).toNat) := K2.nx k2M32 (by omega) vM39_2
              have xM39_7 : M39 107 (cx + 7).toNat = 0 := by rw [hM39]; exact mu_at _ _ _ _
              have k7M39 : K7 (M39 97 18) (M39 107 (cx + 7).toNat) := (by unfold K7; omega)
              refine g_sub [1, 2, 3] rfl ?_
              exact j_X10_readClause_369 X M hi htk hbad hn19 hnc hcl hd cx M39 iM39 fM39 q97_12_M39 (by omega) (by omega) unM39 loM39 tkM39 k0M39 (by omega) (by omega) k1M39 k3M39 k4M39 (by omega) k2M39 k7M39
set_option maxHeartbeats 4000000 in
set_option maxRecDepth 100000 in
theorem j_X10_readClause_224 (X : Cx) (M : Mm) (hi : IM M) (htk : TK M) (hbad : M 97 18 = 0) (hn19 : 0 ≤ M 97 19 ∧ M 97 19 ≤ 12) (hnc : 0 ≤ M 97 21 ∧ M 97 21 ≤ M 97 13) (hcl : CLS M) (hd : Int) (cx : Int) (M1 : Mm) (ic1 : IM M1) (fr1 : Fr (fun c => c = 97 ∨ (107 ≤ c ∧ c ≤ 111)) M M1) (q97_12 : (M1 97 12 = M 97 12)) (hhd : 0 ≤ hd ∧ hd ≤ 2) (hcx : cx = 8 * M 97 19 ∧ M 97 19 < 12) (un1 : UN M M1 cx) (lo1 : LO M M1 (M 97 21)) (tk1 : TK M1) (k01 : M1 107 cx.toNat = hd) (nm1 : M 97 21 ≤ M1 97 21 ∧ M1 97 21 ≤ M1 97 13 ∧ M 97 13 < M1 97 13) (ncl1 : M1 97 19 = M 97 19 + 1) (k11 : K1 (M1 97 18) (M1 107 (cx + 1).toNat) hd) (k31 : M1 107 (cx + 3).toNat = M 97 21) (k41 : K4 M1 (M 97 21) (M1 107 (cx + 4).toNat)) (k4n1 : M1 107 (cx + 4).toNat ≤ M1 97 21) : G X 7 RX10 cX10_readClause 4 none (Qv (fun M1 => IM M1 ∧ Fr (fun c => c = 97 ∨ (107 ≤ c ∧ c ≤ 111)) M M1 ∧ M1 97 12 = M 97 12 ∧ (TK M1 ∧ (0 ≤ M1 97 19 ∧ M1 97 19 ≤ 12) ∧ (0 ≤ M1 97 21 ∧ M1 97 21 ≤ M1 97 13) ∧ M 97 13 ≤ M1 97 13 ∧ CB M1))) 224 [(1, vi hd), (2, vi cx), (0, vr X 97)] [] M1 := by
  have p12 := hi.2.2.2.1
  have tb1 := tk1.b
  have lt1 := tk1.lt
  refine g_aload_n (pc' := 225) 2 dX10_readClause_224 rfl rfl ?_
  refine g_getR (pc' := 228) dX10_readClause_225 rfl f_X10_43 rfl rfl ?_
  refine g_iload_n (pc' := 229) 1 dX10_readClause_228 rfl rfl ?_
  refine g_iconst (pc' := 230) dX10_readClause_229 rfl ?_
  refine g_iadd (pc' := 231) dX10_readClause_230 rfl ?_
  refine g_iconst (pc' := 232) dX10_readClause_231 rfl ?_
  refine g_iast (pc' := 233) dX10_readClause_232 rfl rfl (by omega) (by omega) (by decide) (fun M2 hM2 => ?_)
  have iM2 : IM M2 := IM.wr ic1 hM2 (by unfold okv; first | decide | omega)
  have fM2 : Fr (fun c => c = 97 ∨ (107 ≤ c ∧ c ≤ 111)) M M2 := Fr.wr fr1 hM2 (by first | decide | omega | (dsimp only; omega))
  have q97_12_M2 : (M2 97 12 = M 97 12) := (show M2 97 12 = M1 97 12 by rw [hM2]; exact mu_ne _ _ (by first | decide | omega)).trans q97_12
  have wM2_97_13 : M2 97 13 = M1 97 13 := by rw [hM2]; exact mu_ne _ _ (by first | decide | omega)
  have wM2_97_14 : M2 97 14 = M1 97 14 := by rw [hM2]; exact mu_ne _ _ (by first | decide | omega)
  have wM2_97_15 : M2 97 15 = M1 97 15 := by rw [hM2]; exact mu_ne _ _ (by first | decide | omega)
  have wM2_97_16 : M2 97 16 = M1 97 16 := by rw [hM2]; exact mu_ne _ _ (by first | decide | omega)
  have wM2_97_18 : M2 97 18 = M1 97 18 := by rw [hM2]; exact mu_ne _ _ (by first | decide | omega)
  have wM2_97_19 : M2 97 19 = M1 97 19 := by rw [hM2]; exact mu_ne _ _ (by first | decide | omega)
  have wM2_97_21 : M2 97 21 = M1 97 21 := by rw [hM2]; exact mu_ne _ _ (by first | decide | omega)
  have vM2_0 : M2 107 cx.toNat = M1 107 cx.toNat := (by rw [hM2]; exact mu_ne _ _ (by first | decide | omega))
  have vM2_1 : M2 107 (cx + 1).toNat = M1 107 (cx + 1).toNat := (by rw [hM2]; exact mu_ne _ _ (by first | decide | omega))
  have vM2_3 : M2 107 (cx + 3).toNat = M1 107 (cx + 3).toNat := (by rw [hM2]; exact mu_ne _ _ (by first | decide | omega))
  have vM2_4 : M2 107 (cx + 4).toNat = M1 107 (cx + 4).toNat := (by rw [hM2]; exact mu_ne _ _ (by first | decide | omega))
  have unM2 : UN M M2 cx := UN.wr un1 hM2 (by omega)
  have loM2 : LO M M2 (M 97 21) := LO.tr lo1 (LO.eq (by rw [hM2, mu_cell _ _ (by decide)]) (by rw [hM2, mu_cell _ _ (by decide)]))
  have tkM2 : TK M2 := TK.eq tk1 (show M2 97 12 = M1 97 12 by rw [hM2]; exact mu_ne _ _ (by first | decide | omega)) (show M2 97 13 = M1 97 13 by rw [hM2]; exact mu_ne _ _ (by first | decide | omega)) (show M2 97 14 = M1 97 14 by rw [hM2]; exact mu_ne _ _ (by first | decide | omega)) (show M2 97 15 = M1 97 15 by rw [hM2]; exact mu_ne _ _ (by first | decide | omega)) (show M2 97 16 = M1 97 16 by rw [hM2]; exact mu_ne _ _ (by first | decide | omega))
  have k0M2 : M2 107 cx.toNat = hd := vM2_0.trans k01
  have nmM2 : M 97 21 ≤ M2 97 21 ∧ M2 97 21 ≤ M2 97 13 ∧ M 97 13 < M2 97 13 := (by omega)
  have nclM2 : M2 97 19 = M 97 19 + 1 := (by omega)
  have k1M2 : K1 (M2 97 18) (M2 107 (cx + 1).toNat) hd := K1.nx k11 (by omega) vM2_1
  have k3M2 : M2 107 (cx + 3).toNat = M 97 21 := vM2_3.trans k31
  have k4M2 : K4 M2 (M 97 21) (M2 107 (cx + 4).toNat) := K4.nx k41 (by omega) (by rw [hM2, mu_cell _ _ (by decide)]) (by rw [hM2, mu_cell _ _ (by decide)]) rfl vM2_4
  have k4nM2 : M2 107 (cx + 4).toNat ≤ M2 97 21 := (by omega)
  have xM2_2 : M2 107 (cx + 2).toNat = (-1) := by rw [hM2]; exact mu_at _ _ _ _
  have k2M2 : K2 (M2 97 18) (M2 107 (cx + 2).toNat) := (by unfold K2; omega)
  refine g_iload_n (pc' := 234) 0 dX10_readClause_233 rfl rfl ?_
  refine g_iconst (pc' := 235) dX10_readClause_234 rfl ?_
  refine g_ic_eq (pc' := 238) (tgt := 280) ⟨by omega, by omega⟩ (by decide) dX10_readClause_235 rfl rfl (fun c3 => ?_) (fun c3 => ?_)
  · refine g_sub [0, 1, 2] rfl ?_
    exact j_X10_readClause_280 X M hi htk hbad hn19 hnc hcl hd cx M2 iM2 fM2 q97_12_M2 (by omega) (by omega) unM2 loM2 tkM2 k0M2 (by omega) (by omega) k1M2 k3M2 k4M2 (by omega) k2M2
  · refine g_aload_n (pc' := 239) 2 dX10_readClause_238 rfl rfl ?_
    refine g_getI (pc' := 242) dX10_readClause_239 rfl f_X10_154 rfl rfl (fun v4 ev4 rv4 => ?_)
    refine g_if_ne (pc' := 245) (tgt := 280) rv4 dX10_readClause_242 rfl rfl (fun c5 => ?_) (fun c5 => ?_)
    · refine g_sub [0, 1, 2] rfl ?_
      exact j_X10_readClause_280 X M hi htk hbad hn19 hnc hcl hd cx M2 iM2 fM2 q97_12_M2 (by omega) (by omega) unM2 loM2 tkM2 k0M2 (by omega) (by omega) k1M2 k3M2 k4M2 (by omega) k2M2
    · refine g_aload_n (pc' := 246) 2 dX10_readClause_245 rfl rfl ?_
      refine g_aload_n (pc' := 247) 2 dX10_readClause_246 rfl rfl ?_
      refine g_ldc2 (pc' := 250) (v := 655) dX10_readClause_247 rfl k_X10_292 ?_
      refine g_callVip (pc' := 253) (As := [vl 655]) (b := 97) (S := [vr X 97]) dX10_readClause_250 rfl m_X10_229 w_X10_isWord (c_X10_isWord X M2 iM2 655 (by decide)) rfl ⟨_, _, _, rfl, rfl, rfl⟩ (by decide) (by decide) rfl (Nat.le_of_ble_eq_true rfl) (fun z7 q6 => ?_)
      refine g_callVv (pc' := 256) (As := [vi z7]) (b := 97) (S := []) dX10_readClause_253 rfl m_X10_187 w_X10_must (c_X10_must X M2 iM2 z7 ⟨by omega, by omega⟩ tkM2) rfl ⟨_, _, _, rfl, rfl, rfl⟩ (by decide) (by decide) rfl (Nat.le_of_ble_eq_true rfl) (fun M9 q8 => ?_)
      obtain ⟨iM9, fM90, eM9_97_12, eM9_97_19, eM9_97_21, eM9_97_24, eM9_97_27, eM9_97_28, pM9⟩ := q8
      have fM9 : Fr (fun c => c = 97 ∨ (107 ≤ c ∧ c ≤ 111)) M M9 := Fr.tr fM2 fM90 fi_40
      have q97_12_M9 : (M9 97 12 = M 97 12) := eM9_97_12.trans q97_12_M2
      have wM9_97_19 : M9 97 19 = M2 97 19 := eM9_97_19
      have wM9_97_21 : M9 97 21 = M2 97 21 := eM9_97_21
      obtain ⟨aM9p, bM9p, cM9p, kM9p⟩ := pM9
      have tkM9 : TK M9 := kM9p
      clear kM9p
      have tbM9 := tkM9.b
      have vM9_0 : M9 107 cx.toNat = M2 107 cx.toNat := (congrFun (fM90 107 (by decide)) _)
      have vM9_1 : M9 107 (cx + 1).toNat = M2 107 (cx + 1).toNat := (congrFun (fM90 107 (by decide)) _)
      have vM9_2 : M9 107 (cx + 2).toNat = M2 107 (cx + 2).toNat := (congrFun (fM90 107 (by decide)) _)
      have vM9_3 : M9 107 (cx + 3).toNat = M2 107 (cx + 3).toNat := (congrFun (fM90 107 (by decide)) _)
      have vM9_4 : M9 107 (cx + 4).toNat = M2 107 (cx + 4).toNat := (congrFun (fM90 107 (by decide)) _)
      have unM9 : UN M M9 cx := UN.nx unM2 (fM90 107 (by decide))
      have loM9 : LO M M9 (M 97 21) := LO.tr loM2 (LO.eq (fM90 108 (by decide)) (fM90 109 (by decide)))
      have k0M9 : M9 107 cx.toNat = hd := vM9_0.trans k0M2
      have nmM9 : M 97 21 ≤ M9 97 21 ∧ M9 97 21 ≤ M9 97 13 ∧ M 97 13 < M9 97 13 := (by omega)
      have nclM9 : M9 97 19 = M 97 19 + 1 := (by omega)
      have k1M9 : K1 (M9 97 18) (M9 107 (cx + 1).toNat) hd := K1.nx k1M2 (by omega) vM9_1
      have k3M9 : M9 107 (cx + 3).toNat = M 97 21 := vM9_3.trans k3M2
      have k4M9 : K4 M9 (M 97 21) (M9 107 (cx + 4).toNat) := K4.nx k4M2 (by omega) (fM90 108 (by decide)) (fM90 109 (by decide)) rfl vM9_4
      have k4nM9 : M9 107 (cx + 4).toNat ≤ M9 97 21 := (by omega)
      have k2M9 : K2 (M9 97 18) (M9 107 (cx + 2).toNat) := K2.nx k2M2 (by omega) vM9_2
      refine g_aload_n (pc' := 257) 2 dX10_readClause_256 rfl rfl ?_
      refine g_getR (pc' := 260) dX10_readClause_257 rfl f_X10_43 rfl rfl ?_
      refine g_iload_n (pc' := 261) 1 dX10_readClause_260 rfl rfl ?_
      refine g_iconst (pc' := 262) dX10_readClause_261 rfl ?_
      refine g_iadd (pc' := 263) dX10_readClause_262 rfl ?_
      refine g_aload_n (pc' := 264) 2 dX10_readClause_263 rfl rfl ?_
      refine g_getI (pc' := 267) dX10_readClause_264 rfl f_X10_154 rfl rfl (fun v10 ev10 rv10 => ?_)
      refine g_if_eq (pc' := 270) (tgt := 274) rv10 dX10_readClause_267 rfl rfl (fun c11 => ?_) (fun c11 => ?_)
      · refine g_aload_n (pc' := 275) 2 dX10_readClause_274 rfl rfl ?_
        refine g_iconst (pc' := 276) dX10_readClause_275 rfl ?_
        refine g_callVi (pc' := 279) (As := [vi 5]) (b := 97) (S := [vi (cx + 2), vr X 107]) dX10_readClause_276 rfl m_X10_245 w_X10_readNumber (c_X10_readNumber X M9 iM9 5 (by decide) tkM9 (by omega)) rfl ⟨_, _, _, rfl, rfl, rfl⟩ (by decide) (by decide) rfl (Nat.le_of_ble_eq_true rfl) (fun z13 M14 q12 => ?_)
        obtain ⟨iM14, fM140, eM14_97_12, eM14_97_19, eM14_97_21, eM14_97_24, eM14_97_27, eM14_97_28, pM14⟩ := q12
        have fM14 : Fr (fun c => c = 97 ∨ (107 ≤ c ∧ c ≤ 111)) M M14 := Fr.tr fM9 fM140 fi_40
        have q97_12_M14 : (M14 97 12 = M 97 12) := eM14_97_12.trans q97_12_M9
        have wM14_97_19 : M14 97 19 = M9 97 19 := eM14_97_19
        have wM14_97_21 : M14 97 21 = M9 97 21 := eM14_97_21
        obtain ⟨aM14p, bM14p, cM14p, dM14p, kM14p⟩ := pM14
        have tkM14 : TK M14 := kM14p
        clear kM14p
        have tbM14 := tkM14.b
        have vM14_0 : M14 107 cx.toNat = M9 107 cx.toNat := (congrFun (fM140 107 (by decide)) _)
        have vM14_1 : M14 107 (cx + 1).toNat = M9 107 (cx + 1).toNat := (congrFun (fM140 107 (by decide)) _)
        have vM14_2 : M14 107 (cx + 2).toNat = M9 107 (cx + 2).toNat := (congrFun (fM140 107 (by decide)) _)
        have vM14_3 : M14 107 (cx + 3).toNat = M9 107 (cx + 3).toNat := (congrFun (fM140 107 (by decide)) _)
        have vM14_4 : M14 107 (cx + 4).toNat = M9 107 (cx + 4).toNat := (congrFun (fM140 107 (by decide)) _)
        have unM14 : UN M M14 cx := UN.nx unM9 (fM140 107 (by decide))
        have loM14 : LO M M14 (M 97 21) := LO.tr loM9 (LO.eq (fM140 108 (by decide)) (fM140 109 (by decide)))
        have k0M14 : M14 107 cx.toNat = hd := vM14_0.trans k0M9
        have nmM14 : M 97 21 ≤ M14 97 21 ∧ M14 97 21 ≤ M14 97 13 ∧ M 97 13 < M14 97 13 := (by omega)
        have nclM14 : M14 97 19 = M 97 19 + 1 := (by omega)
        have k1M14 : K1 (M14 97 18) (M14 107 (cx + 1).toNat) hd := K1.nx k1M9 (by omega) vM14_1
        have k3M14 : M14 107 (cx + 3).toNat = M 97 21 := vM14_3.trans k3M9
        have k4M14 : K4 M14 (M 97 21) (M14 107 (cx + 4).toNat) := K4.nx k4M9 (by omega) (fM140 108 (by decide)) (fM140 109 (by decide)) rfl vM14_4
        have k4nM14 : M14 107 (cx + 4).toNat ≤ M14 97 21 := (by omega)
        have k2M14 : K2 (M14 97 18) (M14 107 (cx + 2).toNat) := K2.nx k2M9 (by omega) vM14_2
        refine g_iast (pc' := 280) dX10_readClause_279 rfl rfl (by omega) (by omega) ⟨by omega, by omega⟩ (fun M15 hM15 => ?_)
        have iM15 : IM M15 := IM.wr iM14 hM15 (by unfold okv; first | decide | omega)
        have fM15 : Fr (fun c => c = 97 ∨ (107 ≤ c ∧ c ≤ 111)) M M15 := Fr.wr fM14 hM15 (by first | decide | omega | (dsimp only; omega))
        have q97_12_M15 : (M15 97 12 = M 97 12) := (show M15 97 12 = M14 97 12 by rw [hM15]; exact mu_ne _ _ (by first | decide | omega)).trans q97_12_M14
        have wM15_97_13 : M15 97 13 = M14 97 13 := by rw [hM15]; exact mu_ne _ _ (by first | decide | omega)
        have wM15_97_14 : M15 97 14 = M14 97 14 := by rw [hM15]; exact mu_ne _ _ (by first | decide | omega)
        have wM15_97_15 : M15 97 15 = M14 97 15 := by rw [hM15]; exact mu_ne _ _ (by first | decide | omega)
        have wM15_97_16 : M15 97 16 = M14 97 16 := by rw [hM15]; exact mu_ne _ _ (by first | decide | omega)
        have wM15_97_18 : M15 97 18 = M14 97 18 := by rw [hM15]; exact mu_ne _ _ (by first | decide | omega)
        have wM15_97_19 : M15 97 19 = M14 97 19 := by rw [hM15]; exact mu_ne _ _ (by first | decide | omega)
        have wM15_97_21 : M15 97 21 = M14 97 21 := by rw [hM15]; exact mu_ne _ _ (by first | decide | omega)
        have vM15_0 : M15 107 cx.toNat = M14 107 cx.toNat := (by rw [hM15]; exact mu_ne _ _ (by first | decide | omega))
        have vM15_1 : M15 107 (cx + 1).toNat = M14 107 (cx + 1).toNat := (by rw [hM15]; exact mu_ne _ _ (by first | decide | omega))
        have vM15_3 : M15 107 (cx + 3).toNat = M14 107 (cx + 3).toNat := (by rw [hM15]; exact mu_ne _ _ (by first | decide | omega))
        have vM15_4 : M15 107 (cx + 4).toNat = M14 107 (cx + 4).toNat := (by rw [hM15]; exact mu_ne _ _ (by first | decide | omega))
        have unM15 : UN M M15 cx := UN.wr unM14 hM15 (by omega)
        have loM15 : LO M M15 (M 97 21) := LO.tr loM14 (LO.eq (by rw [hM15, mu_cell _ _ (by decide)]) (by rw [hM15, mu_cell _ _ (by decide)]))
        have tkM15 : TK M15 := TK.eq tkM14 (show M15 97 12 = M14 97 12 by rw [hM15]; exact mu_ne _ _ (by first | decide | omega)) (show M15 97 13 = M14 97 13 by rw [hM15]; exact mu_ne _ _ (by first | decide | omega)) (show M15 97 14 = M14 97 14 by rw [hM15]; exact mu_ne _ _ (by first | decide | omega)) (show M15 97 15 = M14 97 15 by rw [hM15]; exact mu_ne _ _ (by first | decide | omega)) (show M15 97 16 = M14 97 16 by rw [hM15]; exact mu_ne _ _ (by first | decide | omega))
        have k0M15 : M15 107 cx.toNat = hd := vM15_0.trans k0M14
        have nmM15 : M 97 21 ≤ M15 97 21 ∧ M15 97 21 ≤ M15 97 13 ∧ M 97 13 < M15 97 13 := (by omega)
        have nclM15 : M15 97 19 = M 97 19 + 1 := (by omega)
        have k1M15 : K1 (M15 97 18) (M15 107 (cx + 1).toNat) hd := K1.nx k1M14 (by omega) vM15_1
        have k3M15 : M15 107 (cx + 3).toNat = M 97 21 := vM15_3.trans k3M14
        have k4M15 : K4 M15 (M 97 21) (M15 107 (cx + 4).toNat) := K4.nx k4M14 (by omega) (by rw [hM15, mu_cell _ _ (by decide)]) (by rw [hM15, mu_cell _ _ (by decide)]) rfl vM15_4
        have k4nM15 : M15 107 (cx + 4).toNat ≤ M15 97 21 := (by omega)
        have xM15_2 : M15 107 (cx + 2).toNat = z13 := by rw [hM15]; exact mu_at _ _ _ _
        have k2M15 : K2 (M15 97 18) (M15 107 (cx + 2).toNat) := (by unfold K2; omega)
        refine g_sub [0, 1, 2] rfl ?_
        exact j_X10_readClause_280 X M hi htk hbad hn19 hnc hcl hd cx M15 iM15 fM15 q97_12_M15 (by omega) (by omega) unM15 loM15 tkM15 k0M15 (by omega) (by omega) k1M15 k3M15 k4M15 (by omega) k2M15
      · refine g_iconst (pc' := 271) dX10_readClause_270 rfl ?_
        refine g_goto (tgt := 279) dX10_readClause_271 rfl ?_
        refine g_iast (pc' := 280) dX10_readClause_279 rfl rfl (by omega) (by omega) (by decide) (fun M16 hM16 => ?_)
        have iM16 : IM M16 := IM.wr iM9 hM16 (by unfold okv; first | decide | omega)
        have fM16 : Fr (fun c => c = 97 ∨ (107 ≤ c ∧ c ≤ 111)) M M16 := Fr.wr fM9 hM16 (by first | decide | omega | (dsimp only; omega))
        have q97_12_M16 : (M16 97 12 = M 97 12) := (show M16 97 12 = M9 97 12 by rw [hM16]; exact mu_ne _ _ (by first | decide | omega)).trans q97_12_M9
        have wM16_97_13 : M16 97 13 = M9 97 13 := by rw [hM16]; exact mu_ne _ _ (by first | decide | omega)
        have wM16_97_14 : M16 97 14 = M9 97 14 := by rw [hM16]; exact mu_ne _ _ (by first | decide | omega)
        have wM16_97_15 : M16 97 15 = M9 97 15 := by rw [hM16]; exact mu_ne _ _ (by first | decide | omega)
        have wM16_97_16 : M16 97 16 = M9 97 16 := by rw [hM16]; exact mu_ne _ _ (by first | decide | omega)
        have wM16_97_18 : M16 97 18 = M9 97 18 := by rw [hM16]; exact mu_ne _ _ (by first | decide | omega)
        have wM16_97_19 : M16 97 19 = M9 97 19 := by rw [hM16]; exact mu_ne _ _ (by first | decide | omega)
        have wM16_97_21 : M16 97 21 = M9 97 21 := by rw [hM16]; exact mu_ne _ _ (by first | decide | omega)
        have vM16_0 : M16 107 cx.toNat = M9 107 cx.toNat := (by rw [hM16]; exact mu_ne _ _ (by first | decide | omega))
        have vM16_1 : M16 107 (cx + 1).toNat = M9 107 (cx + 1).toNat := (by rw [hM16]; exact mu_ne _ _ (by first | decide | omega))
        have vM16_3 : M16 107 (cx + 3).toNat = M9 107 (cx + 3).toNat := (by rw [hM16]; exact mu_ne _ _ (by first | decide | omega))
        have vM16_4 : M16 107 (cx + 4).toNat = M9 107 (cx + 4).toNat := (by rw [hM16]; exact mu_ne _ _ (by first | decide | omega))
        have unM16 : UN M M16 cx := UN.wr unM9 hM16 (by omega)
        have loM16 : LO M M16 (M 97 21) := LO.tr loM9 (LO.eq (by rw [hM16, mu_cell _ _ (by decide)]) (by rw [hM16, mu_cell _ _ (by decide)]))
        have tkM16 : TK M16 := TK.eq tkM9 (show M16 97 12 = M9 97 12 by rw [hM16]; exact mu_ne _ _ (by first | decide | omega)) (show M16 97 13 = M9 97 13 by rw [hM16]; exact mu_ne _ _ (by first | decide | omega)) (show M16 97 14 = M9 97 14 by rw [hM16]; exact mu_ne _ _ (by first | decide | omega)) (show M16 97 15 = M9 97 15 by rw [hM16]; exact mu_ne _ _ (by first | decide | omega)) (show M16 97 16 = M9 97 16 by rw [hM16]; exact mu_ne _ _ (by first | decide | omega))
        have k0M16 : M16 107 cx.toNat = hd := vM16_0.trans k0M9
        have nmM16 : M 97 21 ≤ M16 97 21 ∧ M16 97 21 ≤ M16 97 13 ∧ M 97 13 < M16 97 13 := (by omega)
        have nclM16 : M16 97 19 = M 97 19 + 1 := (by omega)
        have k1M16 : K1 (M16 97 18) (M16 107 (cx + 1).toNat) hd := K1.nx k1M9 (by omega) vM16_1
        have k3M16 : M16 107 (cx + 3).toNat = M 97 21 := vM16_3.trans k3M9
        have k4M16 : K4 M16 (M 97 21) (M16 107 (cx + 4).toNat) := K4.nx k4M9 (by omega) (by rw [hM16, mu_cell _ _ (by decide)]) (by rw [hM16, mu_cell _ _ (by decide)]) rfl vM16_4
        have k4nM16 : M16 107 (cx + 4).toNat ≤ M16 97 21 := (by omega)
        have xM16_2 : M16 107 (cx + 2).toNat = 0 := by rw [hM16]; exact mu_at _ _ _ _
        have k2M16 : K2 (M16 97 18) (M16 107 (cx + 2).toNat) := (by unfold K2; omega)
        refine g_sub [0, 1, 2] rfl ?_
        exact j_X10_readClause_280 X M hi htk hbad hn19 hnc hcl hd cx M16 iM16 fM16 q97_12_M16 (by omega) (by omega) unM16 loM16 tkM16 k0M16 (by omega) (by omega) k1M16 k3M16 k4M16 (by omega) k2M16
set_option maxHeartbeats 4000000 in
set_option maxRecDepth 100000 in
theorem j_X10_readClause_165 (X : Cx) (M : Mm) (hi : IM M) (htk : TK M) (hbad : M 97 18 = 0) (hn19 : 0 ≤ M 97 19 ∧ M 97 19 ≤ 12) (hnc : 0 ≤ M 97 21 ∧ M 97 21 ≤ M 97 13) (hcl : CLS M) (hd : Int) (cx : Int) (M1 : Mm) (ic1 : IM M1) (fr1 : Fr (fun c => c = 97 ∨ (107 ≤ c ∧ c ≤ 111)) M M1) (q97_12 : (M1 97 12 = M 97 12)) (hhd : 0 ≤ hd ∧ hd ≤ 2) (hcx : cx = 8 * M 97 19 ∧ M 97 19 < 12) (un1 : UN M M1 cx) (lo1 : LO M M1 (M 97 21)) (tk1 : TK M1) (k01 : M1 107 cx.toNat = hd) (nm1 : M 97 21 ≤ M1 97 21 ∧ M1 97 21 ≤ M1 97 13 ∧ M 97 13 < M1 97 13) (ncl1 : M1 97 19 = M 97 19 + 1) (k1a1 : K1a (M1 97 18) (M1 107 (cx + 1).toNat) hd) (k31 : M1 107 (cx + 3).toNat = M 97 21) (rx1 : RX M1 (M 97 21)) : G X 7 RX10 cX10_readClause 4 none (Qv (fun M1 => IM M1 ∧ Fr (fun c => c = 97 ∨ (107 ≤ c ∧ c ≤ 111)) M M1 ∧ M1 97 12 = M 97 12 ∧ (TK M1 ∧ (0 ≤ M1 97 19 ∧ M1 97 19 ≤ 12) ∧ (0 ≤ M1 97 21 ∧ M1 97 21 ≤ M1 97 13) ∧ M 97 13 ≤ M1 97 13 ∧ CB M1))) 165 [(1, vi hd), (2, vi cx), (0, vr X 97)] [] M1 := by
  have p12 := hi.2.2.2.1
  have tb1 := tk1.b
  have lt1 := tk1.lt
  refine g_aload_n (pc' := 166) 2 dX10_readClause_165 rfl rfl ?_
  refine g_getR (pc' := 169) dX10_readClause_166 rfl f_X10_43 rfl rfl ?_
  refine g_iload_n (pc' := 170) 1 dX10_readClause_169 rfl rfl ?_
  refine g_iconst (pc' := 171) dX10_readClause_170 rfl ?_
  refine g_iadd (pc' := 172) dX10_readClause_171 rfl ?_
  refine g_aload_n (pc' := 173) 2 dX10_readClause_172 rfl rfl ?_
  refine g_getI (pc' := 176) dX10_readClause_173 rfl f_X10_191 rfl rfl (fun v2 ev2 rv2 => ?_)
  refine g_iast (pc' := 177) dX10_readClause_176 rfl rfl (by omega) (by omega) rv2 (fun M3 hM3 => ?_)
  have iM3 : IM M3 := IM.wr ic1 hM3 (by unfold okv; first | decide | omega)
  have fM3 : Fr (fun c => c = 97 ∨ (107 ≤ c ∧ c ≤ 111)) M M3 := Fr.wr fr1 hM3 (by first | decide | omega | (dsimp only; omega))
  have q97_12_M3 : (M3 97 12 = M 97 12) := (show M3 97 12 = M1 97 12 by rw [hM3]; exact mu_ne _ _ (by first | decide | omega)).trans q97_12
  have wM3_97_13 : M3 97 13 = M1 97 13 := by rw [hM3]; exact mu_ne _ _ (by first | decide | omega)
  have wM3_97_14 : M3 97 14 = M1 97 14 := by rw [hM3]; exact mu_ne _ _ (by first | decide | omega)
  have wM3_97_15 : M3 97 15 = M1 97 15 := by rw [hM3]; exact mu_ne _ _ (by first | decide | omega)
  have wM3_97_16 : M3 97 16 = M1 97 16 := by rw [hM3]; exact mu_ne _ _ (by first | decide | omega)
  have wM3_97_18 : M3 97 18 = M1 97 18 := by rw [hM3]; exact mu_ne _ _ (by first | decide | omega)
  have wM3_97_19 : M3 97 19 = M1 97 19 := by rw [hM3]; exact mu_ne _ _ (by first | decide | omega)
  have wM3_97_21 : M3 97 21 = M1 97 21 := by rw [hM3]; exact mu_ne _ _ (by first | decide | omega)
  have vM3_0 : M3 107 cx.toNat = M1 107 cx.toNat := (by rw [hM3]; exact mu_ne _ _ (by first | decide | omega))
  have vM3_1 : M3 107 (cx + 1).toNat = M1 107 (cx + 1).toNat := (by rw [hM3]; exact mu_ne _ _ (by first | decide | omega))
  have vM3_3 : M3 107 (cx + 3).toNat = M1 107 (cx + 3).toNat := (by rw [hM3]; exact mu_ne _ _ (by first | decide | omega))
  have unM3 : UN M M3 cx := UN.wr un1 hM3 (by omega)
  have loM3 : LO M M3 (M 97 21) := LO.tr lo1 (LO.eq (by rw [hM3, mu_cell _ _ (by decide)]) (by rw [hM3, mu_cell _ _ (by decide)]))
  have tkM3 : TK M3 := TK.eq tk1 (show M3 97 12 = M1 97 12 by rw [hM3]; exact mu_ne _ _ (by first | decide | omega)) (show M3 97 13 = M1 97 13 by rw [hM3]; exact mu_ne _ _ (by first | decide | omega)) (show M3 97 14 = M1 97 14 by rw [hM3]; exact mu_ne _ _ (by first | decide | omega)) (show M3 97 15 = M1 97 15 by rw [hM3]; exact mu_ne _ _ (by first | decide | omega)) (show M3 97 16 = M1 97 16 by rw [hM3]; exact mu_ne _ _ (by first | decide | omega))
  have k0M3 : M3 107 cx.toNat = hd := vM3_0.trans k01
  have nmM3 : M 97 21 ≤ M3 97 21 ∧ M3 97 21 ≤ M3 97 13 ∧ M 97 13 < M3 97 13 := (by omega)
  have nclM3 : M3 97 19 = M 97 19 + 1 := (by omega)
  have k1aM3 : K1a (M3 97 18) (M3 107 (cx + 1).toNat) hd := K1a.nx k1a1 (by omega) vM3_1
  have k3M3 : M3 107 (cx + 3).toNat = M 97 21 := vM3_3.trans k31
  have rxM3 : RX M3 (M 97 21) := RX.nx rx1 (by omega) (by rw [hM3, mu_cell _ _ (by decide)]) (by rw [hM3, mu_cell _ _ (by decide)]) (by omega)
  have xM3_4 : M3 107 (cx + 4).toNat = v2 := by rw [hM3]; exact mu_at _ _ _ _
  have k4M3 : K4 M3 (M 97 21) (M3 107 (cx + 4).toNat) := K4.rx rxM3 rfl (by omega)
  have k4nM3 : M3 107 (cx + 4).toNat ≤ M3 97 21 := (by omega)
  refine g_iload_n (pc' := 178) 0 dX10_readClause_177 rfl rfl ?_
  refine g_iconst (pc' := 179) dX10_readClause_178 rfl ?_
  refine g_ic_eq (pc' := 182) (tgt := 224) ⟨by omega, by omega⟩ (by decide) dX10_readClause_179 rfl rfl (fun c4 => ?_) (fun c4 => ?_)
  · refine g_sub [0, 1, 2] rfl ?_
    exact j_X10_readClause_224 X M hi htk hbad hn19 hnc hcl hd cx M3 iM3 fM3 q97_12_M3 (by omega) (by omega) unM3 loM3 tkM3 k0M3 (by omega) (by omega) (K1.or k1aM3 (by omega)) k3M3 k4M3 (by omega)
  · refine g_aload_n (pc' := 183) 2 dX10_readClause_182 rfl rfl ?_
    refine g_getI (pc' := 186) dX10_readClause_183 rfl f_X10_154 rfl rfl (fun v5 ev5 rv5 => ?_)
    refine g_if_ne (pc' := 189) (tgt := 224) rv5 dX10_readClause_186 rfl rfl (fun c6 => ?_) (fun c6 => ?_)
    · refine g_sub [0, 1, 2] rfl ?_
      exact j_X10_readClause_224 X M hi htk hbad hn19 hnc hcl hd cx M3 iM3 fM3 q97_12_M3 (by omega) (by omega) unM3 loM3 tkM3 k0M3 (by omega) (by omega) (K1.or k1aM3 (by omega)) k3M3 k4M3 (by omega)
    · refine g_aload_n (pc' := 190) 2 dX10_readClause_189 rfl rfl ?_
      refine g_aload_n (pc' := 191) 2 dX10_readClause_190 rfl rfl ?_
      refine g_ldc2 (pc' := 194) (v := 215533) dX10_readClause_191 rfl k_X10_290 ?_
      refine g_callVip (pc' := 197) (As := [vl 215533]) (b := 97) (S := [vr X 97]) dX10_readClause_194 rfl m_X10_229 w_X10_isWord (c_X10_isWord X M3 iM3 215533 (by decide)) rfl ⟨_, _, _, rfl, rfl, rfl⟩ (by decide) (by decide) rfl (Nat.le_of_ble_eq_true rfl) (fun z8 q7 => ?_)
      refine g_callVv (pc' := 200) (As := [vi z8]) (b := 97) (S := []) dX10_readClause_197 rfl m_X10_187 w_X10_must (c_X10_must X M3 iM3 z8 ⟨by omega, by omega⟩ tkM3) rfl ⟨_, _, _, rfl, rfl, rfl⟩ (by decide) (by decide) rfl (Nat.le_of_ble_eq_true rfl) (fun M10 q9 => ?_)
      obtain ⟨iM10, fM100, eM10_97_12, eM10_97_19, eM10_97_21, eM10_97_24, eM10_97_27, eM10_97_28, pM10⟩ := q9
      have fM10 : Fr (fun c => c = 97 ∨ (107 ≤ c ∧ c ≤ 111)) M M10 := Fr.tr fM3 fM100 fi_40
      have q97_12_M10 : (M10 97 12 = M 97 12) := eM10_97_12.trans q97_12_M3
      have wM10_97_19 : M10 97 19 = M3 97 19 := eM10_97_19
      have wM10_97_21 : M10 97 21 = M3 97 21 := eM10_97_21
      obtain ⟨aM10p, bM10p, cM10p, kM10p⟩ := pM10
      have tkM10 : TK M10 := kM10p
      clear kM10p
      have tbM10 := tkM10.b
      have vM10_0 : M10 107 cx.toNat = M3 107 cx.toNat := (congrFun (fM100 107 (by decide)) _)
      have vM10_1 : M10 107 (cx + 1).toNat = M3 107 (cx + 1).toNat := (congrFun (fM100 107 (by decide)) _)
      have vM10_3 : M10 107 (cx + 3).toNat = M3 107 (cx + 3).toNat := (congrFun (fM100 107 (by decide)) _)
      have vM10_4 : M10 107 (cx + 4).toNat = M3 107 (cx + 4).toNat := (congrFun (fM100 107 (by decide)) _)
      have unM10 : UN M M10 cx := UN.nx unM3 (fM100 107 (by decide))
      have loM10 : LO M M10 (M 97 21) := LO.tr loM3 (LO.eq (fM100 108 (by decide)) (fM100 109 (by decide)))
      have k0M10 : M10 107 cx.toNat = hd := vM10_0.trans k0M3
      have nmM10 : M 97 21 ≤ M10 97 21 ∧ M10 97 21 ≤ M10 97 13 ∧ M 97 13 < M10 97 13 := (by omega)
      have nclM10 : M10 97 19 = M 97 19 + 1 := (by omega)
      have k1aM10 : K1a (M10 97 18) (M10 107 (cx + 1).toNat) hd := K1a.nx k1aM3 (by omega) vM10_1
      have k3M10 : M10 107 (cx + 3).toNat = M 97 21 := vM10_3.trans k3M3
      have k4M10 : K4 M10 (M 97 21) (M10 107 (cx + 4).toNat) := K4.nx k4M3 (by omega) (fM100 108 (by decide)) (fM100 109 (by decide)) rfl vM10_4
      have k4nM10 : M10 107 (cx + 4).toNat ≤ M10 97 21 := (by omega)
      refine g_aload_n (pc' := 201) 2 dX10_readClause_200 rfl rfl ?_
      refine g_getR (pc' := 204) dX10_readClause_201 rfl f_X10_43 rfl rfl ?_
      refine g_iload_n (pc' := 205) 1 dX10_readClause_204 rfl rfl ?_
      refine g_iconst (pc' := 206) dX10_readClause_205 rfl ?_
      refine g_iadd (pc' := 207) dX10_readClause_206 rfl ?_
      refine g_aload_n (pc' := 208) 2 dX10_readClause_207 rfl rfl ?_
      refine g_getI (pc' := 211) dX10_readClause_208 rfl f_X10_154 rfl rfl (fun v11 ev11 rv11 => ?_)
      refine g_if_eq (pc' := 214) (tgt := 218) rv11 dX10_readClause_211 rfl rfl (fun c12 => ?_) (fun c12 => ?_)
      · refine g_aload_n (pc' := 219) 2 dX10_readClause_218 rfl rfl ?_
        refine g_iconst (pc' := 220) dX10_readClause_219 rfl ?_
        refine g_callVi (pc' := 223) (As := [vi 5]) (b := 97) (S := [vi (cx + 1), vr X 107]) dX10_readClause_220 rfl m_X10_245 w_X10_readNumber (c_X10_readNumber X M10 iM10 5 (by decide) tkM10 (by omega)) rfl ⟨_, _, _, rfl, rfl, rfl⟩ (by decide) (by decide) rfl (Nat.le_of_ble_eq_true rfl) (fun z14 M15 q13 => ?_)
        obtain ⟨iM15, fM150, eM15_97_12, eM15_97_19, eM15_97_21, eM15_97_24, eM15_97_27, eM15_97_28, pM15⟩ := q13
        have fM15 : Fr (fun c => c = 97 ∨ (107 ≤ c ∧ c ≤ 111)) M M15 := Fr.tr fM10 fM150 fi_40
        have q97_12_M15 : (M15 97 12 = M 97 12) := eM15_97_12.trans q97_12_M10
        have wM15_97_19 : M15 97 19 = M10 97 19 := eM15_97_19
        have wM15_97_21 : M15 97 21 = M10 97 21 := eM15_97_21
        obtain ⟨aM15p, bM15p, cM15p, dM15p, kM15p⟩ := pM15
        have tkM15 : TK M15 := kM15p
        clear kM15p
        have tbM15 := tkM15.b
        have vM15_0 : M15 107 cx.toNat = M10 107 cx.toNat := (congrFun (fM150 107 (by decide)) _)
        have vM15_1 : M15 107 (cx + 1).toNat = M10 107 (cx + 1).toNat := (congrFun (fM150 107 (by decide)) _)
        have vM15_3 : M15 107 (cx + 3).toNat = M10 107 (cx + 3).toNat := (congrFun (fM150 107 (by decide)) _)
        have vM15_4 : M15 107 (cx + 4).toNat = M10 107 (cx + 4).toNat := (congrFun (fM150 107 (by decide)) _)
        have unM15 : UN M M15 cx := UN.nx unM10 (fM150 107 (by decide))
        have loM15 : LO M M15 (M 97 21) := LO.tr loM10 (LO.eq (fM150 108 (by decide)) (fM150 109 (by decide)))
        have k0M15 : M15 107 cx.toNat = hd := vM15_0.trans k0M10
        have nmM15 : M 97 21 ≤ M15 97 21 ∧ M15 97 21 ≤ M15 97 13 ∧ M 97 13 < M15 97 13 := (by omega)
        have nclM15 : M15 97 19 = M 97 19 + 1 := (by omega)
        have k1aM15 : K1a (M15 97 18) (M15 107 (cx + 1).toNat) hd := K1a.nx k1aM10 (by omega) vM15_1
        have k3M15 : M15 107 (cx + 3).toNat = M 97 21 := vM15_3.trans k3M10
        have k4M15 : K4 M15 (M 97 21) (M15 107 (cx + 4).toNat) := K4.nx k4M10 (by omega) (fM150 108 (by decide)) (fM150 109 (by decide)) rfl vM15_4
        have k4nM15 : M15 107 (cx + 4).toNat ≤ M15 97 21 := (by omega)
        refine g_iast (pc' := 224) dX10_readClause_223 rfl rfl (by omega) (by omega) ⟨by omega, by omega⟩ (fun M16 hM16 => ?_)
        have iM16 : IM M16 := IM.wr iM15 hM16 (by unfold okv; first | decide | omega)
        have fM16 : Fr (fun c => c = 97 ∨ (107 ≤ c ∧ c ≤ 111)) M M16 := Fr.wr fM15 hM16 (by first | decide | omega | (dsimp only; omega))
        have q97_12_M16 : (M16 97 12 = M 97 12) := (show M16 97 12 = M15 97 12 by rw [hM16]; exact mu_ne _ _ (by first | decide | omega)).trans q97_12_M15
        have wM16_97_13 : M16 97 13 = M15 97 13 := by rw [hM16]; exact mu_ne _ _ (by first | decide | omega)
        have wM16_97_14 : M16 97 14 = M15 97 14 := by rw [hM16]; exact mu_ne _ _ (by first | decide | omega)
        have wM16_97_15 : M16 97 15 = M15 97 15 := by rw [hM16]; exact mu_ne _ _ (by first | decide | omega)
        have wM16_97_16 : M16 97 16 = M15 97 16 := by rw [hM16]; exact mu_ne _ _ (by first | decide | omega)
        have wM16_97_18 : M16 97 18 = M15 97 18 := by rw [hM16]; exact mu_ne _ _ (by first | decide | omega)
        have wM16_97_19 : M16 97 19 = M15 97 19 := by rw [hM16]; exact mu_ne _ _ (by first | decide | omega)
        have wM16_97_21 : M16 97 21 = M15 97 21 := by rw [hM16]; exact mu_ne _ _ (by first | decide | omega)
        have vM16_0 : M16 107 cx.toNat = M15 107 cx.toNat := (by rw [hM16]; exact mu_ne _ _ (by first | decide | omega))
        have vM16_3 : M16 107 (cx + 3).toNat = M15 107 (cx + 3).toNat := (by rw [hM16]; exact mu_ne _ _ (by first | decide | omega))
        have vM16_4 : M16 107 (cx + 4).toNat = M15 107 (cx + 4).toNat := (by rw [hM16]; exact mu_ne _ _ (by first | decide | omega))
        have unM16 : UN M M16 cx := UN.wr unM15 hM16 (by omega)
        have loM16 : LO M M16 (M 97 21) := LO.tr loM15 (LO.eq (by rw [hM16, mu_cell _ _ (by decide)]) (by rw [hM16, mu_cell _ _ (by decide)]))
        have tkM16 : TK M16 := TK.eq tkM15 (show M16 97 12 = M15 97 12 by rw [hM16]; exact mu_ne _ _ (by first | decide | omega)) (show M16 97 13 = M15 97 13 by rw [hM16]; exact mu_ne _ _ (by first | decide | omega)) (show M16 97 14 = M15 97 14 by rw [hM16]; exact mu_ne _ _ (by first | decide | omega)) (show M16 97 15 = M15 97 15 by rw [hM16]; exact mu_ne _ _ (by first | decide | omega)) (show M16 97 16 = M15 97 16 by rw [hM16]; exact mu_ne _ _ (by first | decide | omega))
        have k0M16 : M16 107 cx.toNat = hd := vM16_0.trans k0M15
        have nmM16 : M 97 21 ≤ M16 97 21 ∧ M16 97 21 ≤ M16 97 13 ∧ M 97 13 < M16 97 13 := (by omega)
        have nclM16 : M16 97 19 = M 97 19 + 1 := (by omega)
        have k3M16 : M16 107 (cx + 3).toNat = M 97 21 := vM16_3.trans k3M15
        have k4M16 : K4 M16 (M 97 21) (M16 107 (cx + 4).toNat) := K4.nx k4M15 (by omega) (by rw [hM16, mu_cell _ _ (by decide)]) (by rw [hM16, mu_cell _ _ (by decide)]) rfl vM16_4
        have k4nM16 : M16 107 (cx + 4).toNat ≤ M16 97 21 := (by omega)
        have xM16_1 : M16 107 (cx + 1).toNat = z14 := by rw [hM16]; exact mu_at _ _ _ _
        have k1M16 : K1 (M16 97 18) (M16 107 (cx + 1).toNat) hd := (by unfold K1; omega)
        refine g_sub [0, 1, 2] rfl ?_
        exact j_X10_readClause_224 X M hi htk hbad hn19 hnc hcl hd cx M16 iM16 fM16 q97_12_M16 (by omega) (by omega) unM16 loM16 tkM16 k0M16 (by omega) (by omega) k1M16 k3M16 k4M16 (by omega)
      · refine g_iconst (pc' := 215) dX10_readClause_214 rfl ?_
        refine g_goto (tgt := 223) dX10_readClause_215 rfl ?_
        refine g_iast (pc' := 224) dX10_readClause_223 rfl rfl (by omega) (by omega) (by decide) (fun M17 hM17 => ?_)
        have iM17 : IM M17 := IM.wr iM10 hM17 (by unfold okv; first | decide | omega)
        have fM17 : Fr (fun c => c = 97 ∨ (107 ≤ c ∧ c ≤ 111)) M M17 := Fr.wr fM10 hM17 (by first | decide | omega | (dsimp only; omega))
        have q97_12_M17 : (M17 97 12 = M 97 12) := (show M17 97 12 = M10 97 12 by rw [hM17]; exact mu_ne _ _ (by first | decide | omega)).trans q97_12_M10
        have wM17_97_13 : M17 97 13 = M10 97 13 := by rw [hM17]; exact mu_ne _ _ (by first | decide | omega)
        have wM17_97_14 : M17 97 14 = M10 97 14 := by rw [hM17]; exact mu_ne _ _ (by first | decide | omega)
        have wM17_97_15 : M17 97 15 = M10 97 15 := by rw [hM17]; exact mu_ne _ _ (by first | decide | omega)
        have wM17_97_16 : M17 97 16 = M10 97 16 := by rw [hM17]; exact mu_ne _ _ (by first | decide | omega)
        have wM17_97_18 : M17 97 18 = M10 97 18 := by rw [hM17]; exact mu_ne _ _ (by first | decide | omega)
        have wM17_97_19 : M17 97 19 = M10 97 19 := by rw [hM17]; exact mu_ne _ _ (by first | decide | omega)
        have wM17_97_21 : M17 97 21 = M10 97 21 := by rw [hM17]; exact mu_ne _ _ (by first | decide | omega)
        have vM17_0 : M17 107 cx.toNat = M10 107 cx.toNat := (by rw [hM17]; exact mu_ne _ _ (by first | decide | omega))
        have vM17_3 : M17 107 (cx + 3).toNat = M10 107 (cx + 3).toNat := (by rw [hM17]; exact mu_ne _ _ (by first | decide | omega))
        have vM17_4 : M17 107 (cx + 4).toNat = M10 107 (cx + 4).toNat := (by rw [hM17]; exact mu_ne _ _ (by first | decide | omega))
        have unM17 : UN M M17 cx := UN.wr unM10 hM17 (by omega)
        have loM17 : LO M M17 (M 97 21) := LO.tr loM10 (LO.eq (by rw [hM17, mu_cell _ _ (by decide)]) (by rw [hM17, mu_cell _ _ (by decide)]))
        have tkM17 : TK M17 := TK.eq tkM10 (show M17 97 12 = M10 97 12 by rw [hM17]; exact mu_ne _ _ (by first | decide | omega)) (show M17 97 13 = M10 97 13 by rw [hM17]; exact mu_ne _ _ (by first | decide | omega)) (show M17 97 14 = M10 97 14 by rw [hM17]; exact mu_ne _ _ (by first | decide | omega)) (show M17 97 15 = M10 97 15 by rw [hM17]; exact mu_ne _ _ (by first | decide | omega)) (show M17 97 16 = M10 97 16 by rw [hM17]; exact mu_ne _ _ (by first | decide | omega))
        have k0M17 : M17 107 cx.toNat = hd := vM17_0.trans k0M10
        have nmM17 : M 97 21 ≤ M17 97 21 ∧ M17 97 21 ≤ M17 97 13 ∧ M 97 13 < M17 97 13 := (by omega)
        have nclM17 : M17 97 19 = M 97 19 + 1 := (by omega)
        have k3M17 : M17 107 (cx + 3).toNat = M 97 21 := vM17_3.trans k3M10
        have k4M17 : K4 M17 (M 97 21) (M17 107 (cx + 4).toNat) := K4.nx k4M10 (by omega) (by rw [hM17, mu_cell _ _ (by decide)]) (by rw [hM17, mu_cell _ _ (by decide)]) rfl vM17_4
        have k4nM17 : M17 107 (cx + 4).toNat ≤ M17 97 21 := (by omega)
        have xM17_1 : M17 107 (cx + 1).toNat = 0 := by rw [hM17]; exact mu_at _ _ _ _
        have k1M17 : K1 (M17 97 18) (M17 107 (cx + 1).toNat) hd := (by unfold K1; omega)
        refine g_sub [0, 1, 2] rfl ?_
        exact j_X10_readClause_224 X M hi htk hbad hn19 hnc hcl hd cx M17 iM17 fM17 q97_12_M17 (by omega) (by omega) unM17 loM17 tkM17 k0M17 (by omega) (by omega) k1M17 k3M17 k4M17 (by omega)
set_option maxHeartbeats 4000000 in
set_option maxRecDepth 100000 in
theorem j_X10_readClause_141 (X : Cx) (M : Mm) (hi : IM M) (htk : TK M) (hbad : M 97 18 = 0) (hn19 : 0 ≤ M 97 19 ∧ M 97 19 ≤ 12) (hnc : 0 ≤ M 97 21 ∧ M 97 21 ≤ M 97 13) (hcl : CLS M) (hd : Int) (cx : Int) (M1 : Mm) (ic1 : IM M1) (fr1 : Fr (fun c => c = 97 ∨ (107 ≤ c ∧ c ≤ 111)) M M1) (q97_12 : (M1 97 12 = M 97 12)) (hhd : 0 ≤ hd ∧ hd ≤ 2) (hcx : cx = 8 * M 97 19 ∧ M 97 19 < 12) (un1 : UN M M1 cx) (lo1 : LO M M1 (M 97 21)) (tk1 : TK M1) (k01 : M1 107 cx.toNat = hd) (nm1 : M 97 21 ≤ M1 97 21 ∧ M1 97 21 ≤ M1 97 13 ∧ M 97 13 < M1 97 13) (ncl1 : M1 97 19 = M 97 19 + 1) (k1a1 : K1a (M1 97 18) (M1 107 (cx + 1).toNat) hd) (jb : M1 97 21 = M 97 21) : G X 7 RX10 cX10_readClause 4 none (Qv (fun M1 => IM M1 ∧ Fr (fun c => c = 97 ∨ (107 ≤ c ∧ c ≤ 111)) M M1 ∧ M1 97 12 = M 97 12 ∧ (TK M1 ∧ (0 ≤ M1 97 19 ∧ M1 97 19 ≤ 12) ∧ (0 ≤ M1 97 21 ∧ M1 97 21 ≤ M1 97 13) ∧ M 97 13 ≤ M1 97 13 ∧ CB M1))) 141 [(1, vi hd), (2, vi cx), (0, vr X 97)] [] M1 := by
  have p12 := hi.2.2.2.1
  have tb1 := tk1.b
  have lt1 := tk1.lt
  refine g_aload_n (pc' := 142) 2 dX10_readClause_141 rfl rfl ?_
  refine g_getR (pc' := 145) dX10_readClause_142 rfl f_X10_43 rfl rfl ?_
  refine g_iload_n (pc' := 146) 1 dX10_readClause_145 rfl rfl ?_
  refine g_iconst (pc' := 147) dX10_readClause_146 rfl ?_
  refine g_iadd (pc' := 148) dX10_readClause_147 rfl ?_
  refine g_aload_n (pc' := 149) 2 dX10_readClause_148 rfl rfl ?_
  refine g_getI (pc' := 152) dX10_readClause_149 rfl f_X10_191 rfl rfl (fun v2 ev2 rv2 => ?_)
  refine g_iast (pc' := 153) dX10_readClause_152 rfl rfl (by omega) (by omega) rv2 (fun M3 hM3 => ?_)
  have iM3 : IM M3 := IM.wr ic1 hM3 (by unfold okv; first | decide | omega)
  have fM3 : Fr (fun c => c = 97 ∨ (107 ≤ c ∧ c ≤ 111)) M M3 := Fr.wr fr1 hM3 (by first | decide | omega | (dsimp only; omega))
  have q97_12_M3 : (M3 97 12 = M 97 12) := (show M3 97 12 = M1 97 12 by rw [hM3]; exact mu_ne _ _ (by first | decide | omega)).trans q97_12
  have wM3_97_13 : M3 97 13 = M1 97 13 := by rw [hM3]; exact mu_ne _ _ (by first | decide | omega)
  have wM3_97_14 : M3 97 14 = M1 97 14 := by rw [hM3]; exact mu_ne _ _ (by first | decide | omega)
  have wM3_97_15 : M3 97 15 = M1 97 15 := by rw [hM3]; exact mu_ne _ _ (by first | decide | omega)
  have wM3_97_16 : M3 97 16 = M1 97 16 := by rw [hM3]; exact mu_ne _ _ (by first | decide | omega)
  have wM3_97_18 : M3 97 18 = M1 97 18 := by rw [hM3]; exact mu_ne _ _ (by first | decide | omega)
  have wM3_97_19 : M3 97 19 = M1 97 19 := by rw [hM3]; exact mu_ne _ _ (by first | decide | omega)
  have wM3_97_21 : M3 97 21 = M1 97 21 := by rw [hM3]; exact mu_ne _ _ (by first | decide | omega)
  have vM3_0 : M3 107 cx.toNat = M1 107 cx.toNat := (by rw [hM3]; exact mu_ne _ _ (by first | decide | omega))
  have vM3_1 : M3 107 (cx + 1).toNat = M1 107 (cx + 1).toNat := (by rw [hM3]; exact mu_ne _ _ (by first | decide | omega))
  have unM3 : UN M M3 cx := UN.wr un1 hM3 (by omega)
  have loM3 : LO M M3 (M 97 21) := LO.tr lo1 (LO.eq (by rw [hM3, mu_cell _ _ (by decide)]) (by rw [hM3, mu_cell _ _ (by decide)]))
  have tkM3 : TK M3 := TK.eq tk1 (show M3 97 12 = M1 97 12 by rw [hM3]; exact mu_ne _ _ (by first | decide | omega)) (show M3 97 13 = M1 97 13 by rw [hM3]; exact mu_ne _ _ (by first | decide | omega)) (show M3 97 14 = M1 97 14 by rw [hM3]; exact mu_ne _ _ (by first | decide | omega)) (show M3 97 15 = M1 97 15 by rw [hM3]; exact mu_ne _ _ (by first | decide | omega)) (show M3 97 16 = M1 97 16 by rw [hM3]; exact mu_ne _ _ (by first | decide | omega))
  have k0M3 : M3 107 cx.toNat = hd := vM3_0.trans k01
  have nmM3 : M 97 21 ≤ M3 97 21 ∧ M3 97 21 ≤ M3 97 13 ∧ M 97 13 < M3 97 13 := (by omega)
  have nclM3 : M3 97 19 = M 97 19 + 1 := (by omega)
  have k1aM3 : K1a (M3 97 18) (M3 107 (cx + 1).toNat) hd := K1a.nx k1a1 (by omega) vM3_1
  have xM3_3 : M3 107 (cx + 3).toNat = v2 := by rw [hM3]; exact mu_at _ _ _ _
  have k3M3 : M3 107 (cx + 3).toNat = M 97 21 := (by omega)
  refine g_aload_n (pc' := 154) 2 dX10_readClause_153 rfl rfl ?_
  refine g_getI (pc' := 157) dX10_readClause_154 rfl f_X10_154 rfl rfl (fun v4 ev4 rv4 => ?_)
  refine g_if_ne (pc' := 160) (tgt := 165) rv4 dX10_readClause_157 rfl rfl (fun c5 => ?_) (fun c5 => ?_)
  · refine g_sub [0, 1, 2] rfl ?_
    exact j_X10_readClause_165 X M hi htk hbad hn19 hnc hcl hd cx M3 iM3 fM3 q97_12_M3 (by omega) (by omega) unM3 loM3 tkM3 k0M3 (by omega) (by omega) k1aM3 k3M3 (RX.bad (by omega))
  · refine g_aload_n (pc' := 161) 2 dX10_readClause_160 rfl rfl ?_
    refine g_iconst (pc' := 162) dX10_readClause_161 rfl ?_
    refine g_callVv (pc' := 165) (As := [vi 0]) (b := 97) (S := []) dX10_readClause_162 rfl m_X10_287 w_X10_readExpression (c_X10_readExpression X M3 iM3 0 (by decide) tkM3 (by omega) (by omega)) rfl ⟨_, _, _, rfl, rfl, rfl⟩ (by decide) (by decide) rfl (Nat.le_of_ble_eq_true rfl) (fun M7 q6 => ?_)
    obtain ⟨iM7, fM70, eM7_97_12, eM7_97_19, pM7⟩ := q6
    have fM7 : Fr (fun c => c = 97 ∨ (107 ≤ c ∧ c ≤ 111)) M M7 := Fr.tr fM3 fM70 fi_41
    have q97_12_M7 : (M7 97 12 = M 97 12) := eM7_97_12.trans q97_12_M3
    have wM7_97_19 : M7 97 19 = M3 97 19 := eM7_97_19
    obtain ⟨sM7x, xM7x, lM7x, tkM7, aM7x⟩ := pM7
    have tbM7 := tkM7.b
    have srM7 := sM7x.ar
    have vM7_0 : M7 107 cx.toNat = M3 107 cx.toNat := (congrFun (fM70 107 (by decide)) _)
    have vM7_1 : M7 107 (cx + 1).toNat = M3 107 (cx + 1).toNat := (congrFun (fM70 107 (by decide)) _)
    have vM7_3 : M7 107 (cx + 3).toNat = M3 107 (cx + 3).toNat := (congrFun (fM70 107 (by decide)) _)
    have unM7 : UN M M7 cx := UN.nx unM3 (fM70 107 (by decide))
    have loM7 : LO M M7 (M 97 21) := LO.tr loM3 (LO.mo lM7x (by omega))
    have k0M7 : M7 107 cx.toNat = hd := vM7_0.trans k0M3
    have nmM7 : M 97 21 ≤ M7 97 21 ∧ M7 97 21 ≤ M7 97 13 ∧ M 97 13 < M7 97 13 := (by omega)
    have nclM7 : M7 97 19 = M 97 19 + 1 := (by omega)
    have k1aM7 : K1a (M7 97 18) (M7 107 (cx + 1).toNat) hd := K1a.nx k1aM3 (by omega) vM7_1
    have k3M7 : M7 107 (cx + 3).toNat = M 97 21 := vM7_3.trans k3M3
    have rxM7 : RX M7 (M 97 21) := RX.e xM7x (by omega)
    refine g_sub [0, 1, 2] rfl ?_
    exact j_X10_readClause_165 X M hi htk hbad hn19 hnc hcl hd cx M7 iM7 fM7 q97_12_M7 (by omega) (by omega) unM7 loM7 tkM7 k0M7 (by omega) (by omega) k1aM7 k3M7 rxM7
set_option maxHeartbeats 4000000 in
set_option maxRecDepth 100000 in
theorem l_X10_readClause_85 (X : Cx) (M : Mm) (hi : IM M) (htk : TK M) (hbad : M 97 18 = 0) (hn19 : 0 ≤ M 97 19 ∧ M 97 19 ≤ 12) (hnc : 0 ≤ M 97 21 ∧ M 97 21 ≤ M 97 13) (hcl : CLS M) : ∀ (kk : Nat) (hd : Int) (cx : Int) (k : Int) (M1 : Mm) (ic1 : IM M1) (fr1 : Fr (fun c => c = 97 ∨ (107 ≤ c ∧ c ≤ 111)) M M1) (q97_12 : (M1 97 12 = M 97 12)) (hhd : 0 ≤ hd ∧ hd ≤ 2) (hcx : cx = 8 * M 97 19 ∧ M 97 19 < 12) (e19 : M1 97 19 = M 97 19) (un1 : UN M M1 cx) (lo1 : LO M M1 (M 97 21)) (tk1 : TK M1) (jm : M1 97 21 = M 97 21 ∧ M 97 13 < M1 97 13 ∧ M1 97 18 = 0) (hk : 0 ≤ k ∧ k ≤ 8), (8 - k).toNat = kk → G X 7 RX10 cX10_readClause 4 none (Qv (fun M1 => IM M1 ∧ Fr (fun c => c = 97 ∨ (107 ≤ c ∧ c ≤ 111)) M M1 ∧ M1 97 12 = M 97 12 ∧ (TK M1 ∧ (0 ≤ M1 97 19 ∧ M1 97 19 ≤ 12) ∧ (0 ≤ M1 97 21 ∧ M1 97 21 ≤ M1 97 13) ∧ M 97 13 ≤ M1 97 13 ∧ CB M1))) 85 [(1, vi hd), (2, vi cx), (3, vi k), (0, vr X 97)] [] M1 := by
  intro kk
  induction kk using Nat.strongRecOn with
  | ind kk ih =>
    intro hd cx k M1 ic1 fr1 q97_12 hhd hcx e19 un1 lo1 tk1 jm hk hmes
    have p12 := hi.2.2.2.1
    have tb1 := tk1.b
    have lt1 := tk1.lt
    refine g_iload_n (pc' := 86) 2 dX10_readClause_85 rfl rfl ?_
    refine g_bipush (pc' := 88) (v := 8) dX10_readClause_86 rfl (by decide) ?_
    refine g_ic_ge (pc' := 91) (tgt := 106) ⟨by omega, by omega⟩ (by decide) dX10_readClause_88 rfl rfl (fun c2 => ?_) (fun c2 => ?_)
    · refine g_aload_n (pc' := 107) 3 dX10_readClause_106 rfl rfl ?_
      refine g_getR (pc' := 110) dX10_readClause_107 rfl f_X10_43 rfl rfl ?_
      refine g_iload_n (pc' := 111) 1 dX10_readClause_110 rfl rfl ?_
      refine g_iload_n (pc' := 112) 0 dX10_readClause_111 rfl rfl ?_
      refine g_iast (pc' := 113) dX10_readClause_112 rfl rfl (by omega) (by omega) ⟨by omega, by omega⟩ (fun M3 hM3 => ?_)
      have iM3 : IM M3 := IM.wr ic1 hM3 (by unfold okv; first | decide | omega)
      have fM3 : Fr (fun c => c = 97 ∨ (107 ≤ c ∧ c ≤ 111)) M M3 := Fr.wr fr1 hM3 (by first | decide | omega | (dsimp only; omega))
      have q97_12_M3 : (M3 97 12 = M 97 12) := (show M3 97 12 = M1 97 12 by rw [hM3]; exact mu_ne _ _ (by first | decide | omega)).trans q97_12
      have wM3_97_13 : M3 97 13 = M1 97 13 := by rw [hM3]; exact mu_ne _ _ (by first | decide | omega)
      have wM3_97_14 : M3 97 14 = M1 97 14 := by rw [hM3]; exact mu_ne _ _ (by first | decide | omega)
      have wM3_97_15 : M3 97 15 = M1 97 15 := by rw [hM3]; exact mu_ne _ _ (by first | decide | omega)
      have wM3_97_16 : M3 97 16 = M1 97 16 := by rw [hM3]; exact mu_ne _ _ (by first | decide | omega)
      have wM3_97_18 : M3 97 18 = M1 97 18 := by rw [hM3]; exact mu_ne _ _ (by first | decide | omega)
      have wM3_97_19 : M3 97 19 = M1 97 19 := by rw [hM3]; exact mu_ne _ _ (by first | decide | omega)
      have wM3_97_21 : M3 97 21 = M1 97 21 := by rw [hM3]; exact mu_ne _ _ (by first | decide | omega)
      have unM3 : UN M M3 cx := UN.wr un1 hM3 (by omega)
      have loM3 : LO M M3 (M 97 21) := LO.tr lo1 (LO.eq (by rw [hM3, mu_cell _ _ (by decide)]) (by rw [hM3, mu_cell _ _ (by decide)]))
      have tkM3 : TK M3 := TK.eq tk1 (show M3 97 12 = M1 97 12 by rw [hM3]; exact mu_ne _ _ (by first | decide | omega)) (show M3 97 13 = M1 97 13 by rw [hM3]; exact mu_ne _ _ (by first | decide | omega)) (show M3 97 14 = M1 97 14 by rw [hM3]; exact mu_ne _ _ (by first | decide | omega)) (show M3 97 15 = M1 97 15 by rw [hM3]; exact mu_ne _ _ (by first | decide | omega)) (show M3 97 16 = M1 97 16 by rw [hM3]; exact mu_ne _ _ (by first | decide | omega))
      have k0M3 : M3 107 cx.toNat = hd := by rw [hM3]; exact mu_at _ _ _ _
      refine g_aload_n (pc' := 114) 3 dX10_readClause_113 rfl rfl ?_
      refine g_dup (pc' := 115) dX10_readClause_114 rfl rfl ?_
      refine g_getI (pc' := 118) dX10_readClause_115 rfl f_X10_284 rfl rfl (fun v4 ev4 rv4 => ?_)
      refine g_iconst (pc' := 119) dX10_readClause_118 rfl ?_
      refine g_iadd (pc' := 120) dX10_readClause_119 rfl ?_
      refine g_putI (pc' := 123) dX10_readClause_120 rfl p_X10_284 rfl rfl ⟨by omega, by omega⟩ (fun M5 hM5 => ?_)
      have iM5 : IM M5 := IM.wr iM3 hM5 (by unfold okv; first | decide | omega)
      have fM5 : Fr (fun c => c = 97 ∨ (107 ≤ c ∧ c ≤ 111)) M M5 := Fr.wr fM3 hM5 (by first | decide | omega | (dsimp only; omega))
      have q97_12_M5 : (M5 97 12 = M 97 12) := (show M5 97 12 = M3 97 12 by rw [hM5]; exact mu_ne _ _ (by first | decide | omega)).trans q97_12_M3
      have wM5_97_13 : M5 97 13 = M3 97 13 := by rw [hM5]; exact mu_ne _ _ (by first | decide | omega)
      have wM5_97_14 : M5 97 14 = M3 97 14 := by rw [hM5]; exact mu_ne _ _ (by first | decide | omega)
      have wM5_97_15 : M5 97 15 = M3 97 15 := by rw [hM5]; exact mu_ne _ _ (by first | decide | omega)
      have wM5_97_16 : M5 97 16 = M3 97 16 := by rw [hM5]; exact mu_ne _ _ (by first | decide | omega)
      have wM5_97_18 : M5 97 18 = M3 97 18 := by rw [hM5]; exact mu_ne _ _ (by first | decide | omega)
      have wM5_97_21 : M5 97 21 = M3 97 21 := by rw [hM5]; exact mu_ne _ _ (by first | decide | omega)
      have xM5_97_19 : M5 97 19 = v4 + 1 := by rw [hM5]; exact mu_at _ _ _ _
      have unM5 : UN M M5 cx := UN.nx unM3 (by rw [hM5, mu_cell _ _ (by decide)])
      have loM5 : LO M M5 (M 97 21) := LO.tr loM3 (LO.eq (by rw [hM5, mu_cell _ _ (by decide)]) (by rw [hM5, mu_cell _ _ (by decide)]))
      have tkM5 : TK M5 := TK.eq tkM3 (show M5 97 12 = M3 97 12 by rw [hM5]; exact mu_ne _ _ (by first | decide | omega)) (show M5 97 13 = M3 97 13 by rw [hM5]; exact mu_ne _ _ (by first | decide | omega)) (show M5 97 14 = M3 97 14 by rw [hM5]; exact mu_ne _ _ (by first | decide | omega)) (show M5 97 15 = M3 97 15 by rw [hM5]; exact mu_ne _ _ (by first | decide | omega)) (show M5 97 16 = M3 97 16 by rw [hM5]; exact mu_ne _ _ (by first | decide | omega))
      have k0M5 : M5 107 cx.toNat = hd := (show M5 107 cx.toNat = M3 107 cx.toNat by rw [hM5]; exact mu_ne _ _ (by first | decide | omega)).trans k0M3
      have nmM5 : M 97 21 ≤ M5 97 21 ∧ M5 97 21 ≤ M5 97 13 ∧ M 97 13 < M5 97 13 := (by omega)
      have nclM5 : M5 97 19 = M 97 19 + 1 := (by omega)
      refine g_iload_n (pc' := 124) 0 dX10_readClause_123 rfl rfl ?_
      refine g_iconst (pc' := 125) dX10_readClause_124 rfl ?_
      refine g_ic_ne (pc' := 128) (tgt := 141) ⟨by omega, by omega⟩ (by decide) dX10_readClause_125 rfl rfl (fun c6 => ?_) (fun c6 => ?_)
      · refine g_sub [0, 1, 3] rfl ?_
        exact j_X10_readClause_141 X M hi htk hbad hn19 hnc hcl hd cx M5 iM5 fM5 q97_12_M5 (by omega) (by omega) unM5 loM5 tkM5 k0M5 (by omega) (by omega) (K1a.no (by omega)) (by omega)
      · refine g_aload_n (pc' := 129) 3 dX10_readClause_128 rfl rfl ?_
        refine g_getR (pc' := 132) dX10_readClause_129 rfl f_X10_43 rfl rfl ?_
        refine g_iload_n (pc' := 133) 1 dX10_readClause_132 rfl rfl ?_
        refine g_iconst (pc' := 134) dX10_readClause_133 rfl ?_
        refine g_iadd (pc' := 135) dX10_readClause_134 rfl ?_
        refine g_aload_n (pc' := 136) 3 dX10_readClause_135 rfl rfl ?_
        refine g_iconst (pc' := 137) dX10_readClause_136 rfl ?_
        refine g_callVi (pc' := 140) (As := [vi 3]) (b := 97) (S := [vi (cx + 1), vr X 107]) dX10_readClause_137 rfl m_X10_245 w_X10_readNumber (c_X10_readNumber X M5 iM5 3 (by decide) tkM5 (by omega)) rfl ⟨_, _, _, rfl, rfl, rfl⟩ (by decide) (by decide) rfl (Nat.le_of_ble_eq_true rfl) (fun z8 M9 q7 => ?_)
        obtain ⟨iM9, fM90, eM9_97_12, eM9_97_19, eM9_97_21, eM9_97_24, eM9_97_27, eM9_97_28, pM9⟩ := q7
        have fM9 : Fr (fun c => c = 97 ∨ (107 ≤ c ∧ c ≤ 111)) M M9 := Fr.tr fM5 fM90 fi_40
        have q97_12_M9 : (M9 97 12 = M 97 12) := eM9_97_12.trans q97_12_M5
        have wM9_97_19 : M9 97 19 = M5 97 19 := eM9_97_19
        have wM9_97_21 : M9 97 21 = M5 97 21 := eM9_97_21
        have xM9_97_19 : M9 97 19 = v4 + 1 := eM9_97_19.trans xM5_97_19
        obtain ⟨aM9p, bM9p, cM9p, dM9p, kM9p⟩ := pM9
        have tkM9 : TK M9 := kM9p
        clear kM9p
        have tbM9 := tkM9.b
        have vM9_0 : M9 107 cx.toNat = M5 107 cx.toNat := (congrFun (fM90 107 (by decide)) _)
        have unM9 : UN M M9 cx := UN.nx unM5 (fM90 107 (by decide))
        have loM9 : LO M M9 (M 97 21) := LO.tr loM5 (LO.eq (fM90 108 (by decide)) (fM90 109 (by decide)))
        have k0M9 : M9 107 cx.toNat = hd := vM9_0.trans k0M5
        have nmM9 : M 97 21 ≤ M9 97 21 ∧ M9 97 21 ≤ M9 97 13 ∧ M 97 13 < M9 97 13 := (by omega)
        have nclM9 : M9 97 19 = M 97 19 + 1 := (by omega)
        refine g_iast (pc' := 141) dX10_readClause_140 rfl rfl (by omega) (by omega) ⟨by omega, by omega⟩ (fun M10 hM10 => ?_)
        have iM10 : IM M10 := IM.wr iM9 hM10 (by unfold okv; first | decide | omega)
        have fM10 : Fr (fun c => c = 97 ∨ (107 ≤ c ∧ c ≤ 111)) M M10 := Fr.wr fM9 hM10 (by first | decide | omega | (dsimp only; omega))
        have q97_12_M10 : (M10 97 12 = M 97 12) := (show M10 97 12 = M9 97 12 by rw [hM10]; exact mu_ne _ _ (by first | decide | omega)).trans q97_12_M9
        have wM10_97_13 : M10 97 13 = M9 97 13 := by rw [hM10]; exact mu_ne _ _ (by first | decide | omega)
        have wM10_97_14 : M10 97 14 = M9 97 14 := by rw [hM10]; exact mu_ne _ _ (by first | decide | omega)
        have wM10_97_15 : M10 97 15 = M9 97 15 := by rw [hM10]; exact mu_ne _ _ (by first | decide | omega)
        have wM10_97_16 : M10 97 16 = M9 97 16 := by rw [hM10]; exact mu_ne _ _ (by first | decide | omega)
        have wM10_97_18 : M10 97 18 = M9 97 18 := by rw [hM10]; exact mu_ne _ _ (by first | decide | omega)
        have wM10_97_19 : M10 97 19 = M9 97 19 := by rw [hM10]; exact mu_ne _ _ (by first | decide | omega)
        have wM10_97_21 : M10 97 21 = M9 97 21 := by rw [hM10]; exact mu_ne _ _ (by first | decide | omega)
        have xM10_97_19 : M10 97 19 = v4 + 1 := (show M10 97 19 = M9 97 19 by rw [hM10]; exact mu_ne _ _ (by first | decide | omega)).trans xM9_97_19
        have vM10_0 : M10 107 cx.toNat = M9 107 cx.toNat := (by rw [hM10]; exact mu_ne _ _ (by first | decide | omega))
        have unM10 : UN M M10 cx := UN.wr unM9 hM10 (by omega)
        have loM10 : LO M M10 (M 97 21) := LO.tr loM9 (LO.eq (by rw [hM10, mu_cell _ _ (by decide)]) (by rw [hM10, mu_cell _ _ (by decide)]))
        have tkM10 : TK M10 := TK.eq tkM9 (show M10 97 12 = M9 97 12 by rw [hM10]; exact mu_ne _ _ (by first | decide | omega)) (show M10 97 13 = M9 97 13 by rw [hM10]; exact mu_ne _ _ (by first | decide | omega)) (show M10 97 14 = M9 97 14 by rw [hM10]; exact mu_ne _ _ (by first | decide | omega)) (show M10 97 15 = M9 97 15 by rw [hM10]; exact mu_ne _ _ (by first | decide | omega)) (show M10 97 16 = M9 97 16 by rw [hM10]; exact mu_ne _ _ (by first | decide | omega))
        have k0M10 : M10 107 cx.toNat = hd := vM10_0.trans k0M9
        have nmM10 : M 97 21 ≤ M10 97 21 ∧ M10 97 21 ≤ M10 97 13 ∧ M 97 13 < M10 97 13 := (by omega)
        have nclM10 : M10 97 19 = M 97 19 + 1 := (by omega)
        have xM10_1 : M10 107 (cx + 1).toNat = z8 := by rw [hM10]; exact mu_at _ _ _ _
        have k1aM10 : K1a (M10 97 18) (M10 107 (cx + 1).toNat) hd := (by unfold K1a; omega)
        refine g_sub [0, 1, 3] rfl ?_
        exact j_X10_readClause_141 X M hi htk hbad hn19 hnc hcl hd cx M10 iM10 fM10 q97_12_M10 (by omega) (by omega) unM10 loM10 tkM10 k0M10 (by omega) (by omega) k1aM10 (by omega)
    · refine g_aload_n (pc' := 92) 3 dX10_readClause_91 rfl rfl ?_
      refine g_getR (pc' := 95) dX10_readClause_92 rfl f_X10_43 rfl rfl ?_
      refine g_iload_n (pc' := 96) 1 dX10_readClause_95 rfl rfl ?_
      refine g_iload_n (pc' := 97) 2 dX10_readClause_96 rfl rfl ?_
      refine g_iadd (pc' := 98) dX10_readClause_97 rfl ?_
      refine g_iconst (pc' := 99) dX10_readClause_98 rfl ?_
      refine g_iast (pc' := 100) dX10_readClause_99 rfl rfl (by omega) (by omega) (by decide) (fun M11 hM11 => ?_)
      have iM11 : IM M11 := IM.wr ic1 hM11 (by unfold okv; first | decide | omega)
      have fM11 : Fr (fun c => c = 97 ∨ (107 ≤ c ∧ c ≤ 111)) M M11 := Fr.wr fr1 hM11 (by first | decide | omega | (dsimp only; omega))
      have q97_12_M11 : (M11 97 12 = M 97 12) := (show M11 97 12 = M1 97 12 by rw [hM11]; exact mu_ne _ _ (by first | decide | omega)).trans q97_12
      have wM11_97_13 : M11 97 13 = M1 97 13 := by rw [hM11]; exact mu_ne _ _ (by first | decide | omega)
      have wM11_97_14 : M11 97 14 = M1 97 14 := by rw [hM11]; exact mu_ne _ _ (by first | decide | omega)
      have wM11_97_15 : M11 97 15 = M1 97 15 := by rw [hM11]; exact mu_ne _ _ (by first | decide | omega)
      have wM11_97_16 : M11 97 16 = M1 97 16 := by rw [hM11]; exact mu_ne _ _ (by first | decide | omega)
      have wM11_97_18 : M11 97 18 = M1 97 18 := by rw [hM11]; exact mu_ne _ _ (by first | decide | omega)
      have wM11_97_19 : M11 97 19 = M1 97 19 := by rw [hM11]; exact mu_ne _ _ (by first | decide | omega)
      have wM11_97_21 : M11 97 21 = M1 97 21 := by rw [hM11]; exact mu_ne _ _ (by first | decide | omega)
      have unM11 : UN M M11 cx := UN.wr un1 hM11 (by omega)
      have loM11 : LO M M11 (M 97 21) := LO.tr lo1 (LO.eq (by rw [hM11, mu_cell _ _ (by decide)]) (by rw [hM11, mu_cell _ _ (by decide)]))
      have tkM11 : TK M11 := TK.eq tk1 (show M11 97 12 = M1 97 12 by rw [hM11]; exact mu_ne _ _ (by first | decide | omega)) (show M11 97 13 = M1 97 13 by rw [hM11]; exact mu_ne _ _ (by first | decide | omega)) (show M11 97 14 = M1 97 14 by rw [hM11]; exact mu_ne _ _ (by first | decide | omega)) (show M11 97 15 = M1 97 15 by rw [hM11]; exact mu_ne _ _ (by first | decide | omega)) (show M11 97 16 = M1 97 16 by rw [hM11]; exact mu_ne _ _ (by first | decide | omega))
      refine g_iinc (pc' := 103) (L' := [(3, vi (k + 1)), (1, vi hd), (2, vi cx), (0, vr X 97)]) 2 dX10_readClause_100 rfl rfl (by decide) rfl ?_
      refine g_goto (tgt := 85) dX10_readClause_103 rfl ?_
      refine g_sub [1, 2, 0, 3] rfl ?_
      exact ih _ (by omega) hd cx (k + 1) M11 iM11 fM11 q97_12_M11 (by omega) (by omega) (by omega) unM11 loM11 tkM11 (by omega) (by omega) rfl
set_option maxHeartbeats 4000000 in
set_option maxRecDepth 100000 in
theorem j_X10_readClause_44 (X : Cx) (M : Mm) (hi : IM M) (htk : TK M) (hbad : M 97 18 = 0) (hn19 : 0 ≤ M 97 19 ∧ M 97 19 ≤ 12) (hnc : 0 ≤ M 97 21 ∧ M 97 21 ≤ M 97 13) (hcl : CLS M) (hd : Int) (hhd : -1 ≤ hd ∧ hd ≤ 2) (hso : hd ≠ -1 → M 97 15 = 1) : G X 7 RX10 cX10_readClause 4 none (Qv (fun M1 => IM M1 ∧ Fr (fun c => c = 97 ∨ (107 ≤ c ∧ c ≤ 111)) M M1 ∧ M1 97 12 = M 97 12 ∧ (TK M1 ∧ (0 ≤ M1 97 19 ∧ M1 97 19 ≤ 12) ∧ (0 ≤ M1 97 21 ∧ M1 97 21 ≤ M1 97 13) ∧ M 97 13 ≤ M1 97 13 ∧ CB M1))) 44 [(1, vi hd), (0, vr X 97)] [] M := by
  have p12 := hi.2.2.2.1
  have tb0 := htk.b
  have lt0 := htk.lt
  refine g_aload_n (pc' := 45) 1 dX10_readClause_44 rfl rfl ?_
  refine g_iload_n (pc' := 46) 0 dX10_readClause_45 rfl rfl ?_
  refine g_iconst (pc' := 47) dX10_readClause_46 rfl ?_
  refine g_ic_eq (pc' := 50) (tgt := 63) ⟨by omega, by omega⟩ (by decide) dX10_readClause_47 rfl rfl (fun c2 => ?_) (fun c2 => ?_)
  · refine g_iconst (pc' := 64) dX10_readClause_63 rfl ?_
    refine g_callVv (pc' := 67) (As := [vi 0]) (b := 97) (S := []) dX10_readClause_64 rfl m_X10_187 w_X10_must (c_X10_must X M hi 0 (by decide) htk) rfl ⟨_, _, _, rfl, rfl, rfl⟩ (by decide) (by decide) rfl (Nat.le_of_ble_eq_true rfl) (fun M4 q3 => ?_)
    obtain ⟨iM4, fM40, eM4_97_12, eM4_97_19, eM4_97_21, eM4_97_24, eM4_97_27, eM4_97_28, pM4⟩ := q3
    have fM4 : Fr (fun c => c = 97 ∨ (107 ≤ c ∧ c ≤ 111)) M M4 := Fr.tr Fr.rf fM40 fi_40
    have q97_12_M4 : (M4 97 12 = M 97 12) := eM4_97_12
    have wM4_97_19 : M4 97 19 = M 97 19 := eM4_97_19
    have wM4_97_21 : M4 97 21 = M 97 21 := eM4_97_21
    obtain ⟨aM4p, bM4p, cM4p, kM4p⟩ := pM4
    have tkM4 : TK M4 := kM4p
    clear kM4p
    have tbM4 := tkM4.b
    have e7M4 := fM40 107 (by decide)
    have e8M4 := fM40 108 (by decide)
    have e9M4 := fM40 109 (by decide)
    refine g_aload_n (pc' := 68) 1 dX10_readClause_67 rfl rfl ?_
    refine g_getI (pc' := 71) dX10_readClause_68 rfl f_X10_154 rfl rfl (fun v5 ev5 rv5 => ?_)
    refine g_if_eq (pc' := 74) (tgt := 75) rv5 dX10_readClause_71 rfl rfl (fun c6 => ?_) (fun c6 => ?_)
    · refine g_bipush (pc' := 77) (v := 8) dX10_readClause_75 rfl (by decide) ?_
      refine g_aload_n (pc' := 78) 1 dX10_readClause_77 rfl rfl ?_
      refine g_getI (pc' := 81) dX10_readClause_78 rfl f_X10_284 rfl rfl (fun v7 ev7 rv7 => ?_)
      refine g_imul (pc' := 82) dX10_readClause_81 rfl ?_
      obtain ⟨x8, ex8⟩ : ∃ z : Int, z = 8 * v7 := ⟨_, rfl⟩
      rw [← ex8]
      refine g_istore_n (pc' := 83) (i := 2) (L' := [(2, vi x8), (1, vi hd), (0, vr X 97)]) dX10_readClause_82 rfl rfl (by decide) rfl ?_
      refine g_iconst (pc' := 84) dX10_readClause_83 rfl ?_
      refine g_istore_n (pc' := 85) (i := 3) (L' := [(3, vi 0), (2, vi x8), (1, vi hd), (0, vr X 97)]) dX10_readClause_84 rfl rfl (by decide) rfl ?_
      refine g_sub [2, 1, 0, 3] rfl ?_
      exact l_X10_readClause_85 X M hi htk hbad hn19 hnc hcl _ hd x8 0 M4 iM4 fM4 q97_12_M4 (by omega) (by omega) (by omega) (UN.nx (UN.rf M _) e7M4) (LO.eq e8M4 e9M4) tkM4 (by omega) (by omega) rfl
    · refine g_vreturn dX10_readClause_74 ?_
      exact ⟨iM4, fM4, q97_12_M4, tkM4, by omega, by omega, by omega, CB.bad (by omega)⟩
  · refine g_aload_n (pc' := 51) 1 dX10_readClause_50 rfl rfl ?_
    refine g_getI (pc' := 54) dX10_readClause_51 rfl f_X10_284 rfl rfl (fun v9 ev9 rv9 => ?_)
    refine g_bipush (pc' := 56) (v := 12) dX10_readClause_54 rfl (by decide) ?_
    refine g_ic_ge (pc' := 59) (tgt := 63) rv9 (by decide) dX10_readClause_56 rfl rfl (fun c10 => ?_) (fun c10 => ?_)
    · refine g_iconst (pc' := 64) dX10_readClause_63 rfl ?_
      refine g_callVv (pc' := 67) (As := [vi 0]) (b := 97) (S := []) dX10_readClause_64 rfl m_X10_187 w_X10_must (c_X10_must X M hi 0 (by decide) htk) rfl ⟨_, _, _, rfl, rfl, rfl⟩ (by decide) (by decide) rfl (Nat.le_of_ble_eq_true rfl) (fun M12 q11 => ?_)
      obtain ⟨iM12, fM120, eM12_97_12, eM12_97_19, eM12_97_21, eM12_97_24, eM12_97_27, eM12_97_28, pM12⟩ := q11
      have fM12 : Fr (fun c => c = 97 ∨ (107 ≤ c ∧ c ≤ 111)) M M12 := Fr.tr Fr.rf fM120 fi_40
      have q97_12_M12 : (M12 97 12 = M 97 12) := eM12_97_12
      have wM12_97_19 : M12 97 19 = M 97 19 := eM12_97_19
      have wM12_97_21 : M12 97 21 = M 97 21 := eM12_97_21
      obtain ⟨aM12p, bM12p, cM12p, kM12p⟩ := pM12
      have tkM12 : TK M12 := kM12p
      clear kM12p
      have tbM12 := tkM12.b
      have e7M12 := fM120 107 (by decide)
      have e8M12 := fM120 108 (by decide)
      have e9M12 := fM120 109 (by decide)
      refine g_aload_n (pc' := 68) 1 dX10_readClause_67 rfl rfl ?_
      refine g_getI (pc' := 71) dX10_readClause_68 rfl f_X10_154 rfl rfl (fun v13 ev13 rv13 => ?_)
      refine g_if_eq (pc' := 74) (tgt := 75) rv13 dX10_readClause_71 rfl rfl (fun c14 => ?_) (fun c14 => ?_)
      · refine g_bipush (pc' := 77) (v := 8) dX10_readClause_75 rfl (by decide) ?_
        refine g_aload_n (pc' := 78) 1 dX10_readClause_77 rfl rfl ?_
        refine g_getI (pc' := 81) dX10_readClause_78 rfl f_X10_284 rfl rfl (fun v15 ev15 rv15 => ?_)
        refine g_imul (pc' := 82) dX10_readClause_81 rfl ?_
        obtain ⟨x16, ex16⟩ : ∃ z : Int, z = 8 * v15 := ⟨_, rfl⟩
        rw [← ex16]
        refine g_istore_n (pc' := 83) (i := 2) (L' := [(2, vi x16), (1, vi hd), (0, vr X 97)]) dX10_readClause_82 rfl rfl (by decide) rfl ?_
        refine g_iconst (pc' := 84) dX10_readClause_83 rfl ?_
        refine g_istore_n (pc' := 85) (i := 3) (L' := [(3, vi 0), (2, vi x16), (1, vi hd), (0, vr X 97)]) dX10_readClause_84 rfl rfl (by decide) rfl ?_
        refine g_sub [2, 1, 0, 3] rfl ?_
        exact l_X10_readClause_85 X M hi htk hbad hn19 hnc hcl _ hd x16 0 M12 iM12 fM12 q97_12_M12 (by omega) (by omega) (by omega) (UN.nx (UN.rf M _) e7M12) (LO.eq e8M12 e9M12) tkM12 (by omega) (by omega) rfl
      · refine g_vreturn dX10_readClause_74 ?_
        exact ⟨iM12, fM12, q97_12_M12, tkM12, by omega, by omega, by omega, CB.bad (by omega)⟩
    · refine g_iconst (pc' := 60) dX10_readClause_59 rfl ?_
      refine g_goto (tgt := 64) dX10_readClause_60 rfl ?_
      refine g_callVv (pc' := 67) (As := [vi 1]) (b := 97) (S := []) dX10_readClause_64 rfl m_X10_187 w_X10_must (c_X10_must X M hi 1 (by decide) htk) rfl ⟨_, _, _, rfl, rfl, rfl⟩ (by decide) (by decide) rfl (Nat.le_of_ble_eq_true rfl) (fun M18 q17 => ?_)
      obtain ⟨iM18, fM180, eM18_97_12, eM18_97_19, eM18_97_21, eM18_97_24, eM18_97_27, eM18_97_28, pM18⟩ := q17
      have fM18 : Fr (fun c => c = 97 ∨ (107 ≤ c ∧ c ≤ 111)) M M18 := Fr.tr Fr.rf fM180 fi_40
      have q97_12_M18 : (M18 97 12 = M 97 12) := eM18_97_12
      have wM18_97_19 : M18 97 19 = M 97 19 := eM18_97_19
      have wM18_97_21 : M18 97 21 = M 97 21 := eM18_97_21
      obtain ⟨aM18p, bM18p, cM18p, kM18p⟩ := pM18
      have tkM18 : TK M18 := kM18p
      clear kM18p
      have tbM18 := tkM18.b
      have e7M18 := fM180 107 (by decide)
      have e8M18 := fM180 108 (by decide)
      have e9M18 := fM180 109 (by decide)
      refine g_aload_n (pc' := 68) 1 dX10_readClause_67 rfl rfl ?_
      refine g_getI (pc' := 71) dX10_readClause_68 rfl f_X10_154 rfl rfl (fun v19 ev19 rv19 => ?_)
      refine g_if_eq (pc' := 74) (tgt := 75) rv19 dX10_readClause_71 rfl rfl (fun c20 => ?_) (fun c20 => ?_)
      · refine g_bipush (pc' := 77) (v := 8) dX10_readClause_75 rfl (by decide) ?_
        refine g_aload_n (pc' := 78) 1 dX10_readClause_77 rfl rfl ?_
        refine g_getI (pc' := 81) dX10_readClause_78 rfl f_X10_284 rfl rfl (fun v21 ev21 rv21 => ?_)
        refine g_imul (pc' := 82) dX10_readClause_81 rfl ?_
        obtain ⟨x22, ex22⟩ : ∃ z : Int, z = 8 * v21 := ⟨_, rfl⟩
        rw [← ex22]
        refine g_istore_n (pc' := 83) (i := 2) (L' := [(2, vi x22), (1, vi hd), (0, vr X 97)]) dX10_readClause_82 rfl rfl (by decide) rfl ?_
        refine g_iconst (pc' := 84) dX10_readClause_83 rfl ?_
        refine g_istore_n (pc' := 85) (i := 3) (L' := [(3, vi 0), (2, vi x22), (1, vi hd), (0, vr X 97)]) dX10_readClause_84 rfl rfl (by decide) rfl ?_
        refine g_sub [2, 1, 0, 3] rfl ?_
        exact l_X10_readClause_85 X M hi htk hbad hn19 hnc hcl _ hd x22 0 M18 iM18 fM18 q97_12_M18 (by omega) (by omega) (by omega) (UN.nx (UN.rf M _) e7M18) (LO.eq e8M18 e9M18) tkM18 (by omega) (by omega) rfl
      · refine g_vreturn dX10_readClause_74 ?_
        exact ⟨iM18, fM18, q97_12_M18, tkM18, by omega, by omega, by omega, CB.bad (by omega)⟩
set_option maxHeartbeats 4000000 in
set_option maxRecDepth 100000 in
theorem c_X10_readClause (X : Cx) (M : Mm) (hi : IM M) (htk : TK M) (hbad : M 97 18 = 0) (hn19 : 0 ≤ M 97 19 ∧ M 97 19 ≤ 12) (hnc : 0 ≤ M 97 21 ∧ M 97 21 ≤ M 97 13) (hcl : CLS M) : Con X 7 yX10_readClause cX10_readClause 4 none [vr X 97] M (Qv (fun M1 => IM M1 ∧ Fr (fun c => c = 97 ∨ (107 ≤ c ∧ c ≤ 111)) M M1 ∧ M1 97 12 = M 97 12 ∧ (TK M1 ∧ (0 ≤ M1 97 19 ∧ M1 97 19 ≤ 12) ∧ (0 ≤ M1 97 21 ∧ M1 97 21 ≤ M1 97 13) ∧ M 97 13 ≤ M1 97 13 ∧ CB M1))) := by
  refine Con.ofG rfl (Nat.le_of_ble_eq_true rfl) ?_
  show G X 7 RX10 cX10_readClause 4 none (Qv (fun M1 => IM M1 ∧ Fr (fun c => c = 97 ∨ (107 ≤ c ∧ c ≤ 111)) M M1 ∧ M1 97 12 = M 97 12 ∧ (TK M1 ∧ (0 ≤ M1 97 19 ∧ M1 97 19 ≤ 12) ∧ (0 ≤ M1 97 21 ∧ M1 97 21 ≤ M1 97 13) ∧ M 97 13 ≤ M1 97 13 ∧ CB M1))) 0 [(0, vr X 97)] [] M
  have p12 := hi.2.2.2.1
  have tb0 := htk.b
  have lt0 := htk.lt
  refine g_aload_n (pc' := 1) 0 dX10_readClause_0 rfl rfl ?_
  refine g_ldc2 (pc' := 4) (v := 20463086) dX10_readClause_1 rfl k_X10_278 ?_
  refine g_callVip (pc' := 7) (As := [vl 20463086]) (b := 97) (S := []) dX10_readClause_4 rfl m_X10_229 w_X10_isWord (c_X10_isWord X M hi 20463086 (by decide)) rfl ⟨_, _, _, rfl, rfl, rfl⟩ (by decide) (by decide) rfl (Nat.le_of_ble_eq_true rfl) (fun z3 q2 => ?_)
  refine g_if_eq (pc' := 10) (tgt := 14) ⟨by omega, by omega⟩ dX10_readClause_7 rfl rfl (fun c4 => ?_) (fun c4 => ?_)
  · refine g_aload_n (pc' := 15) 0 dX10_readClause_14 rfl rfl ?_
    refine g_ldc2 (pc' := 18) (v := 402539) dX10_readClause_15 rfl k_X10_280 ?_
    refine g_callVip (pc' := 21) (As := [vl 402539]) (b := 97) (S := []) dX10_readClause_18 rfl m_X10_229 w_X10_isWord (c_X10_isWord X M hi 402539 (by decide)) rfl ⟨_, _, _, rfl, rfl, rfl⟩ (by decide) (by decide) rfl (Nat.le_of_ble_eq_true rfl) (fun z6 q5 => ?_)
    refine g_if_eq (pc' := 24) (tgt := 28) ⟨by omega, by omega⟩ dX10_readClause_21 rfl rfl (fun c7 => ?_) (fun c7 => ?_)
    · refine g_aload_n (pc' := 29) 0 dX10_readClause_28 rfl rfl ?_
      refine g_ldc2 (pc' := 32) (v := 206220) dX10_readClause_29 rfl k_X10_282 ?_
      refine g_callVip (pc' := 35) (As := [vl 206220]) (b := 97) (S := []) dX10_readClause_32 rfl m_X10_229 w_X10_isWord (c_X10_isWord X M hi 206220 (by decide)) rfl ⟨_, _, _, rfl, rfl, rfl⟩ (by decide) (by decide) rfl (Nat.le_of_ble_eq_true rfl) (fun z9 q8 => ?_)
      refine g_if_eq (pc' := 38) (tgt := 42) ⟨by omega, by omega⟩ dX10_readClause_35 rfl rfl (fun c10 => ?_) (fun c10 => ?_)
      · refine g_iconst (pc' := 43) dX10_readClause_42 rfl ?_
        refine g_istore_n (pc' := 44) (i := 1) (L' := [(1, vi (-1)), (0, vr X 97)]) dX10_readClause_43 rfl rfl (by decide) rfl ?_
        refine g_sub [0, 1] rfl ?_
        exact j_X10_readClause_44 X M hi htk hbad hn19 hnc hcl (-1) (by omega) (by omega)
      · refine g_iconst (pc' := 39) dX10_readClause_38 rfl ?_
        refine g_goto (tgt := 43) dX10_readClause_39 rfl ?_
        refine g_istore_n (pc' := 44) (i := 1) (L' := [(1, vi 2), (0, vr X 97)]) dX10_readClause_43 rfl rfl (by decide) rfl ?_
        refine g_sub [0, 1] rfl ?_
        exact j_X10_readClause_44 X M hi htk hbad hn19 hnc hcl 2 (by omega) (by omega)
    · refine g_iconst (pc' := 25) dX10_readClause_24 rfl ?_
      refine g_goto (tgt := 43) dX10_readClause_25 rfl ?_
      refine g_istore_n (pc' := 44) (i := 1) (L' := [(1, vi 1), (0, vr X 97)]) dX10_readClause_43 rfl rfl (by decide) rfl ?_
      refine g_sub [0, 1] rfl ?_
      exact j_X10_readClause_44 X M hi htk hbad hn19 hnc hcl 1 (by omega) (by omega)
  · refine g_iconst (pc' := 11) dX10_readClause_10 rfl ?_
    refine g_goto (tgt := 43) dX10_readClause_11 rfl ?_
    refine g_istore_n (pc' := 44) (i := 1) (L' := [(1, vi 0), (0, vr X 97)]) dX10_readClause_43 rfl rfl (by decide) rfl ?_
    refine g_sub [0, 1] rfl ?_
    exact j_X10_readClause_44 X M hi htk hbad hn19 hnc hcl 0 (by omega) (by omega)
set_option maxHeartbeats 4000000 in
set_option maxRecDepth 100000 in
theorem l_X10_evening_121 (X : Cx) (M : Mm) (hi : IM M) (n111 : Nat) (ihO : ∀ mO : Nat, mO < n111 → ∀ (ci : Int) (M1 : Mm) (ic1 : IM M1) (fr1 : Fr (fun c => 97 ≤ c ∧ c ≤ 116) M M1) (q99_0 : (M1 99 0 = M 99 0)) (q99_1 : (M1 99 1 = M 99 1)) (q99_2 : (M1 99 2 = M 99 2)) (q99_3 : (M1 99 3 = M 99 3)) (q100_0 : id (M1 100 0 = M 100 0)) (q100_1 : id (M1 100 1 = M 100 1)) (q100_2 : id (M1 100 2 = M 100 2)) (q100_3 : id (M1 100 3 = M 100 3)) (q100_49 : id (M1 100 49 = M 100 49)) (q100_50 : id (M1 100 50 = M 100 50)) (q100_51 : id (M1 100 51 = M 100 51)) (q100_52 : id (M1 100 52 = M 100 52)) (q103_0 : id (M1 103 0 = M 103 0)) (q103_1 : id (M1 103 1 = M 103 1)) (cls1 : CLS M1) (kn1 : ∀ j : Nat, j < 25 → M1 104 (25 + j) = M 101 j) (tz : M1 97 12 = 0) (n1 : 0 ≤ M1 97 19 ∧ M1 97 19 ≤ 12) (hd1 : 0 ≤ M1 97 32 ∧ M1 97 32 ≤ 20 * ci) (hk : 0 ≤ ci ∧ ci ≤ M1 97 19), (M1 97 19 - ci).toNat = mO → G X 12 RX10 cX10_evening 4 (some .int) (Qi (fun r M1 => IM M1 ∧ Fr (fun c => 97 ≤ c ∧ c ≤ 116) M M1 ∧ M1 99 0 = M 99 0 ∧ M1 99 1 = M 99 1 ∧ M1 99 2 = M 99 2 ∧ M1 99 3 = M 99 3 ∧ M1 100 0 = M 100 0 ∧ M1 100 1 = M 100 1 ∧ M1 100 2 = M 100 2 ∧ M1 100 3 = M 100 3 ∧ M1 100 49 = M 100 49 ∧ M1 100 50 = M 100 50 ∧ M1 100 51 = M 100 51 ∧ M1 100 52 = M 100 52 ∧ M1 103 0 = M 103 0 ∧ M1 103 1 = M 103 1 ∧ (inI r ∧ M1 97 12 = 0))) 111 [(1, vi ci), (0, vr X 97)] [] M1) : ∀ (kk : Nat) (ci : Int) (t : Int) (M1 : Mm) (ic1 : IM M1) (fr1 : Fr (fun c => 97 ≤ c ∧ c ≤ 116) M M1) (q99_0 : (M1 99 0 = M 99 0)) (q99_1 : (M1 99 1 = M 99 1)) (q99_2 : (M1 99 2 = M 99 2)) (q99_3 : (M1 99 3 = M 99 3)) (q100_0 : id (M1 100 0 = M 100 0)) (q100_1 : id (M1 100 1 = M 100 1)) (q100_2 : id (M1 100 2 = M 100 2)) (q100_3 : id (M1 100 3 = M 100 3)) (q100_49 : id (M1 100 49 = M 100 49)) (q100_50 : id (M1 100 50 = M 100 50)) (q100_51 : id (M1 100 51 = M 100 51)) (q100_52 : id (M1 100 52 = M 100 52)) (q103_0 : id (M1 103 0 = M 103 0)) (q103_1 : id (M1 103 1 = M 103 1)) (cls1 : CLS M1) (kn1 : ∀ j : Nat, j < 25 → M1 104 (25 + j) = M 101 j) (tz : M1 97 12 = 0) (n1 : 0 ≤ M1 97 19 ∧ M1 97 19 ≤ 12) (hd1 : 0 ≤ M1 97 32 ∧ M1 97 32 ≤ 20 * ci + t) (hk : 0 ≤ ci ∧ ci < M1 97 19) (ht : 0 ≤ t ∧ t ≤ 20) (hO : (M1 97 19 - ci).toNat = n111), (20 - t).toNat = kk → G X 12 RX10 cX10_evening 4 (some .int) (Qi (fun r M1 => IM M1 ∧ Fr (fun c => 97 ≤ c ∧ c ≤ 116) M M1 ∧ M1 99 0 = M 99 0 ∧ M1 99 1 = M 99 1 ∧ M1 99 2 = M 99 2 ∧ M1 99 3 = M 99 3 ∧ M1 100 0 = M 100 0 ∧ M1 100 1 = M 100 1 ∧ M1 100 2 = M 100 2 ∧ M1 100 3 = M 100 3 ∧ M1 100 49 = M 100 49 ∧ M1 100 50 = M 100 50 ∧ M1 100 51 = M 100 51 ∧ M1 100 52 = M 100 52 ∧ M1 103 0 = M 103 0 ∧ M1 103 1 = M 103 1 ∧ (inI r ∧ M1 97 12 = 0))) 121 [(1, vi ci), (2, vi t), (0, vr X 97)] [] M1 := by
  intro kk
  induction kk using Nat.strongRecOn with
  | ind kk ih =>
    intro ci t M1 ic1 fr1 q99_0 q99_1 q99_2 q99_3 q100_0 q100_1 q100_2 q100_3 q100_49 q100_50 q100_51 q100_52 q103_0 q103_1 cls1 kn1 tz n1 hd1 hk ht hO hmes
    have p0 := hi.1.1
    have p1 := hi.1.2.1
    have p2 := hi.1.2.2.1
    have p3 := hi.1.2.2.2.1
    have p12 := hi.2.2.2.1
    refine g_iload_n (pc' := 122) 1 dX10_evening_121 rfl rfl ?_
    refine g_aload_n (pc' := 123) 2 dX10_evening_122 rfl rfl ?_
    refine g_getR (pc' := 126) dX10_evening_123 rfl f_X10_43 rfl rfl ?_
    refine g_bipush (pc' := 128) (v := 8) dX10_evening_126 rfl (by decide) ?_
    refine g_iload_n (pc' := 129) 0 dX10_evening_128 rfl rfl ?_
    refine g_imul (pc' := 130) dX10_evening_129 rfl ?_
    refine g_bipush (pc' := 132) (v := 7) dX10_evening_130 rfl (by decide) ?_
    refine g_iadd (pc' := 133) dX10_evening_132 rfl ?_
    refine g_iald (pc' := 134) dX10_evening_133 rfl rfl (by omega) (by omega) (fun v2 ev2 rv2 => ?_)
    have gv2 : 0 ≤ v2 ∧ v2 ≤ 20 := by rw [ev2]; exact (cls1 ci (by omega) (by omega)).2.2.2.1
    refine g_ic_ge (pc' := 137) (tgt := 173) ⟨by omega, by omega⟩ rv2 dX10_evening_134 rfl rfl (fun c3 => ?_) (fun c3 => ?_)
    · refine g_iinc (pc' := 176) (L' := [(1, vi (ci + 1)), (2, vi t), (0, vr X 97)]) 0 dX10_evening_173 rfl rfl (by decide) rfl ?_
      refine g_goto (tgt := 111) dX10_evening_176 rfl ?_
      refine g_sub [0, 2] rfl ?_
      exact ihO _ (by omega) (ci + 1) M1 ic1 fr1 q99_0 q99_1 q99_2 q99_3 q100_0 q100_1 q100_2 q100_3 q100_49 q100_50 q100_51 q100_52 q103_0 q103_1 cls1 kn1 (by omega) (by omega) (by omega) (by omega) rfl
    · refine g_aload_n (pc' := 138) 2 dX10_evening_137 rfl rfl ?_
      refine g_bipush (pc' := 140) (v := 8) dX10_evening_138 rfl (by decide) ?_
      refine g_iload_n (pc' := 141) 0 dX10_evening_140 rfl rfl ?_
      refine g_imul (pc' := 142) dX10_evening_141 rfl ?_
      refine g_callVi (pc' := 145) (As := [vi (8 * ci)]) (b := 97) (S := []) dX10_evening_142 rfl m_X10_328 w_X10_move (c_X10_move X M1 ic1 (8 * ci) ⟨by omega, by omega⟩ (by omega) (cls1 ci (by omega) (by omega)) (by omega)) rfl ⟨_, _, _, rfl, rfl, rfl⟩ (by decide) (by decide) rfl (Nat.le_of_ble_eq_true rfl) (fun z5 M6 q4 => ?_)
      obtain ⟨iM6, fM60, eM6_97_12, eM6_97_19, eM6_97_21, pM6⟩ := q4
      have fM6 : Fr (fun c => 97 ≤ c ∧ c ≤ 116) M M6 := Fr.tr fr1 fM60 fi_42
      have q99_0_M6 : (M6 99 0 = M 99 0) := (congrFun (fM60 99 (by first | decide | omega | (dsimp only; omega))) 0).trans q99_0
      have q99_1_M6 : (M6 99 1 = M 99 1) := (congrFun (fM60 99 (by first | decide | omega | (dsimp only; omega))) 1).trans q99_1
      have q99_2_M6 : (M6 99 2 = M 99 2) := (congrFun (fM60 99 (by first | decide | omega | (dsimp only; omega))) 2).trans q99_2
      have q99_3_M6 : (M6 99 3 = M 99 3) := (congrFun (fM60 99 (by first | decide | omega | (dsimp only; omega))) 3).trans q99_3
      have q100_0_M6 : id (M6 100 0 = M 100 0) := (congrFun (fM60 100 (by first | decide | omega | (dsimp only; omega))) 0).trans q100_0
      have q100_1_M6 : id (M6 100 1 = M 100 1) := (congrFun (fM60 100 (by first | decide | omega | (dsimp only; omega))) 1).trans q100_1
      have q100_2_M6 : id (M6 100 2 = M 100 2) := (congrFun (fM60 100 (by first | decide | omega | (dsimp only; omega))) 2).trans q100_2
      have q100_3_M6 : id (M6 100 3 = M 100 3) := (congrFun (fM60 100 (by first | decide | omega | (dsimp only; omega))) 3).trans q100_3
      have q100_49_M6 : id (M6 100 49 = M 100 49) := (congrFun (fM60 100 (by first | decide | omega | (dsimp only; omega))) 49).trans q100_49
      have q100_50_M6 : id (M6 100 50 = M 100 50) := (congrFun (fM60 100 (by first | decide | omega | (dsimp only; omega))) 50).trans q100_50
      have q100_51_M6 : id (M6 100 51 = M 100 51) := (congrFun (fM60 100 (by first | decide | omega | (dsimp only; omega))) 51).trans q100_51
      have q100_52_M6 : id (M6 100 52 = M 100 52) := (congrFun (fM60 100 (by first | decide | omega | (dsimp only; omega))) 52).trans q100_52
      have q103_0_M6 : id (M6 103 0 = M 103 0) := (congrFun (fM60 103 (by first | decide | omega | (dsimp only; omega))) 0).trans q103_0
      have q103_1_M6 : id (M6 103 1 = M 103 1) := (congrFun (fM60 103 (by first | decide | omega | (dsimp only; omega))) 1).trans q103_1
      have wM6_97_12 : M6 97 12 = M1 97 12 := eM6_97_12
      have wM6_97_19 : M6 97 19 = M1 97 19 := eM6_97_19
      have wM6_97_21 : M6 97 21 = M1 97 21 := eM6_97_21
      obtain ⟨mrM6, mdM6, kqM6⟩ := pM6
      have knM6 : ∀ j : Nat, j < 25 → M6 104 (25 + j) = M 101 j := fun j hj => (kqM6 (25 + j) (by omega)).trans (kn1 j hj)
      have clsM6 : CLS M6 := CLS.nx cls1 (fM60 107 (by decide)) (fM60 108 (by decide)) (fM60 109 (by decide)) (by omega) (by omega)
      refine g_istore_n (pc' := 146) (i := 3) (L' := [(3, vi z5), (1, vi ci), (2, vi t), (0, vr X 97)]) dX10_evening_145 rfl rfl (by decide) rfl ?_
      refine g_iload_n (pc' := 147) 0 dX10_evening_146 rfl rfl ?_
      refine g_if_ge (pc' := 150) (tgt := 167) ⟨by omega, by omega⟩ dX10_evening_147 rfl rfl (fun c7 => ?_) (fun c7 => ?_)
      · refine g_iinc (pc' := 170) (L' := [(2, vi (t + 1)), (3, vi z5), (1, vi ci), (0, vr X 97)]) 2 dX10_evening_167 rfl rfl (by decide) rfl ?_
        refine g_goto (tgt := 121) dX10_evening_170 rfl ?_
        refine g_sub [2, 0, 3] rfl ?_
        exact ih _ (by omega) ci (t + 1) M6 iM6 fM6 q99_0_M6 q99_1_M6 q99_2_M6 q99_3_M6 q100_0_M6 q100_1_M6 q100_2_M6 q100_3_M6 q100_49_M6 q100_50_M6 q100_51_M6 q100_52_M6 q103_0_M6 q103_1_M6 clsM6 knM6 (by omega) (by omega) (by omega) (by omega) (by omega) (by omega) rfl
      · refine g_aload_n (pc' := 151) 3 dX10_evening_150 rfl rfl ?_
        refine g_bipush (pc' := 153) (v := 25) dX10_evening_151 rfl (by decide) ?_
        refine g_callVv (pc' := 156) (As := [vi 25]) (b := 97) (S := []) dX10_evening_153 rfl m_X10_132 w_X10_putBack (c_X10_putBack X M6 25 (by decide) ⟨by omega, by omega⟩) rfl ⟨_, _, _, rfl, rfl, rfl⟩ (by decide) (by decide) rfl (Nat.le_of_ble_eq_true rfl) (fun M9 q8 => ?_)
        obtain ⟨fbM9, pbM9⟩ := q8
        have iM9 : IM M9 := IM.parts iM6 fbM9 (fun c z => by omega) (PIw.cg hi.2.1 (fun j hj => (pbM9 j hj).trans (knM6 j hj)))
        have q99_0_M9 : M9 99 0 = M 99 0 := (congrFun (fbM9 99 (by omega)) 0).trans q99_0_M6
        have q99_1_M9 : M9 99 1 = M 99 1 := (congrFun (fbM9 99 (by omega)) 1).trans q99_1_M6
        have q99_2_M9 : M9 99 2 = M 99 2 := (congrFun (fbM9 99 (by omega)) 2).trans q99_2_M6
        have q99_3_M9 : M9 99 3 = M 99 3 := (congrFun (fbM9 99 (by omega)) 3).trans q99_3_M6
        have q100_0_M9 : M9 100 0 = M 100 0 := (congrFun (fbM9 100 (by omega)) 0).trans q100_0_M6
        have q100_1_M9 : M9 100 1 = M 100 1 := (congrFun (fbM9 100 (by omega)) 1).trans q100_1_M6
        have q100_2_M9 : M9 100 2 = M 100 2 := (congrFun (fbM9 100 (by omega)) 2).trans q100_2_M6
        have q100_3_M9 : M9 100 3 = M 100 3 := (congrFun (fbM9 100 (by omega)) 3).trans q100_3_M6
        have q100_49_M9 : M9 100 49 = M 100 49 := (congrFun (fbM9 100 (by omega)) 49).trans q100_49_M6
        have q100_50_M9 : M9 100 50 = M 100 50 := (congrFun (fbM9 100 (by omega)) 50).trans q100_50_M6
        have q100_51_M9 : M9 100 51 = M 100 51 := (congrFun (fbM9 100 (by omega)) 51).trans q100_51_M6
        have q100_52_M9 : M9 100 52 = M 100 52 := (congrFun (fbM9 100 (by omega)) 52).trans q100_52_M6
        have q103_0_M9 : M9 103 0 = M 103 0 := (congrFun (fbM9 103 (by omega)) 0).trans q103_0_M6
        have q103_1_M9 : M9 103 1 = M 103 1 := (congrFun (fbM9 103 (by omega)) 1).trans q103_1_M6
        have fM9 : Fr (fun c => 97 ≤ c ∧ c ≤ 116) M M9 := Fr.tr fM6 fbM9 (fun c z => by omega)
        have wM9_97_12 := congrFun (fbM9 97 (by omega)) 12
        have wM9_97_13 := congrFun (fbM9 97 (by omega)) 13
        have wM9_97_14 := congrFun (fbM9 97 (by omega)) 14
        have wM9_97_15 := congrFun (fbM9 97 (by omega)) 15
        have wM9_97_16 := congrFun (fbM9 97 (by omega)) 16
        have wM9_97_18 := congrFun (fbM9 97 (by omega)) 18
        have wM9_97_19 := congrFun (fbM9 97 (by omega)) 19
        have wM9_97_21 := congrFun (fbM9 97 (by omega)) 21
        have wM9_97_32 := congrFun (fbM9 97 (by omega)) 32
        refine g_aload_n (pc' := 157) 3 dX10_evening_156 rfl rfl ?_
        refine g_iload_n (pc' := 158) 1 dX10_evening_157 rfl rfl ?_
        refine g_putI (pc' := 161) dX10_evening_158 rfl p_X10_61 rfl rfl ⟨by omega, by omega⟩ (fun M10 hM10 => ?_)
        have iM10 : IM M10 := IM.wr iM9 hM10 (by unfold okv; first | decide | omega)
        have fM10 : Fr (fun c => 97 ≤ c ∧ c ≤ 116) M M10 := Fr.wr fM9 hM10 (by first | decide | omega | (dsimp only; omega))
        have q99_0_M10 : (M10 99 0 = M 99 0) := (show M10 99 0 = M9 99 0 by rw [hM10]; exact mu_ne _ _ (by first | decide | omega)).trans q99_0_M9
        have q99_1_M10 : (M10 99 1 = M 99 1) := (show M10 99 1 = M9 99 1 by rw [hM10]; exact mu_ne _ _ (by first | decide | omega)).trans q99_1_M9
        have q99_2_M10 : (M10 99 2 = M 99 2) := (show M10 99 2 = M9 99 2 by rw [hM10]; exact mu_ne _ _ (by first | decide | omega)).trans q99_2_M9
        have q99_3_M10 : (M10 99 3 = M 99 3) := (show M10 99 3 = M9 99 3 by rw [hM10]; exact mu_ne _ _ (by first | decide | omega)).trans q99_3_M9
        have q100_0_M10 : id (M10 100 0 = M 100 0) := (show M10 100 0 = M9 100 0 by rw [hM10]; exact mu_ne _ _ (by first | decide | omega)).trans q100_0_M9
        have q100_1_M10 : id (M10 100 1 = M 100 1) := (show M10 100 1 = M9 100 1 by rw [hM10]; exact mu_ne _ _ (by first | decide | omega)).trans q100_1_M9
        have q100_2_M10 : id (M10 100 2 = M 100 2) := (show M10 100 2 = M9 100 2 by rw [hM10]; exact mu_ne _ _ (by first | decide | omega)).trans q100_2_M9
        have q100_3_M10 : id (M10 100 3 = M 100 3) := (show M10 100 3 = M9 100 3 by rw [hM10]; exact mu_ne _ _ (by first | decide | omega)).trans q100_3_M9
        have q100_49_M10 : id (M10 100 49 = M 100 49) := (show M10 100 49 = M9 100 49 by rw [hM10]; exact mu_ne _ _ (by first | decide | omega)).trans q100_49_M9
        have q100_50_M10 : id (M10 100 50 = M 100 50) := (show M10 100 50 = M9 100 50 by rw [hM10]; exact mu_ne _ _ (by first | decide | omega)).trans q100_50_M9
        have q100_51_M10 : id (M10 100 51 = M 100 51) := (show M10 100 51 = M9 100 51 by rw [hM10]; exact mu_ne _ _ (by first | decide | omega)).trans q100_51_M9
        have q100_52_M10 : id (M10 100 52 = M 100 52) := (show M10 100 52 = M9 100 52 by rw [hM10]; exact mu_ne _ _ (by first | decide | omega)).trans q100_52_M9
        have q103_0_M10 : id (M10 103 0 = M 103 0) := (show M10 103 0 = M9 103 0 by rw [hM10]; exact mu_ne _ _ (by first | decide | omega)).trans q103_0_M9
        have q103_1_M10 : id (M10 103 1 = M 103 1) := (show M10 103 1 = M9 103 1 by rw [hM10]; exact mu_ne _ _ (by first | decide | omega)).trans q103_1_M9
        have wM10_97_12 : M10 97 12 = M9 97 12 := by rw [hM10]; exact mu_ne _ _ (by first | decide | omega)
        have wM10_97_13 : M10 97 13 = M9 97 13 := by rw [hM10]; exact mu_ne _ _ (by first | decide | omega)
        have wM10_97_14 : M10 97 14 = M9 97 14 := by rw [hM10]; exact mu_ne _ _ (by first | decide | omega)
        have wM10_97_15 : M10 97 15 = M9 97 15 := by rw [hM10]; exact mu_ne _ _ (by first | decide | omega)
        have wM10_97_16 : M10 97 16 = M9 97 16 := by rw [hM10]; exact mu_ne _ _ (by first | decide | omega)
        have wM10_97_18 : M10 97 18 = M9 97 18 := by rw [hM10]; exact mu_ne _ _ (by first | decide | omega)
        have wM10_97_19 : M10 97 19 = M9 97 19 := by rw [hM10]; exact mu_ne _ _ (by first | decide | omega)
        have wM10_97_21 : M10 97 21 = M9 97 21 := by rw [hM10]; exact mu_ne _ _ (by first | decide | omega)
        have wM10_97_32 : M10 97 32 = M9 97 32 := by rw [hM10]; exact mu_ne _ _ (by first | decide | omega)
        have xM10_97_33 : M10 97 33 = ci := by rw [hM10]; exact mu_at _ _ _ _
        refine g_aload_n (pc' := 162) 3 dX10_evening_161 rfl rfl ?_
        refine g_iload_n (pc' := 163) 0 dX10_evening_162 rfl rfl ?_
        refine g_callVi (pc' := 166) (As := [vi z5]) (b := 97) (S := []) dX10_evening_163 rfl m_X10_87 w_X10_tell (c_X10_tell X M10 iM10 z5 ⟨by omega, by omega⟩ (by omega)) rfl ⟨_, _, _, rfl, rfl, rfl⟩ (by decide) (by decide) rfl (Nat.le_of_ble_eq_true rfl) (fun z12 M13 q11 => ?_)
        obtain ⟨iM13, fM130, eM13_99_0, eM13_99_1, eM13_99_2, eM13_99_3, eM13_100_0, eM13_100_1, eM13_100_2, eM13_100_3, eM13_100_49, eM13_100_50, eM13_100_51, eM13_100_52, eM13_103_0, eM13_103_1, eM13_97_12, pM13⟩ := q11
        have fM13 : Fr (fun c => 97 ≤ c ∧ c ≤ 116) M M13 := Fr.tr fM10 fM130 fi_23
        have q99_0_M13 : (M13 99 0 = M 99 0) := eM13_99_0.trans q99_0_M10
        have q99_1_M13 : (M13 99 1 = M 99 1) := eM13_99_1.trans q99_1_M10
        have q99_2_M13 : (M13 99 2 = M 99 2) := eM13_99_2.trans q99_2_M10
        have q99_3_M13 : (M13 99 3 = M 99 3) := eM13_99_3.trans q99_3_M10
        have q100_0_M13 : id (M13 100 0 = M 100 0) := eM13_100_0.trans q100_0_M10
        have q100_1_M13 : id (M13 100 1 = M 100 1) := eM13_100_1.trans q100_1_M10
        have q100_2_M13 : id (M13 100 2 = M 100 2) := eM13_100_2.trans q100_2_M10
        have q100_3_M13 : id (M13 100 3 = M 100 3) := eM13_100_3.trans q100_3_M10
        have q100_49_M13 : id (M13 100 49 = M 100 49) := eM13_100_49.trans q100_49_M10
        have q100_50_M13 : id (M13 100 50 = M 100 50) := eM13_100_50.trans q100_50_M10
        have q100_51_M13 : id (M13 100 51 = M 100 51) := eM13_100_51.trans q100_51_M10
        have q100_52_M13 : id (M13 100 52 = M 100 52) := eM13_100_52.trans q100_52_M10
        have q103_0_M13 : id (M13 103 0 = M 103 0) := eM13_103_0.trans q103_0_M10
        have q103_1_M13 : id (M13 103 1 = M 103 1) := eM13_103_1.trans q103_1_M10
        have wM13_97_12 : M13 97 12 = M10 97 12 := eM13_97_12
        clear eM13_100_0 eM13_100_1 eM13_100_2 eM13_100_3 eM13_100_49 eM13_100_50 eM13_100_51 eM13_100_52 eM13_103_0 eM13_103_1
        refine g_ireturn dX10_evening_166 ?_
        exact ⟨iM13, fM13, q99_0_M13, q99_1_M13, q99_2_M13, q99_3_M13, q100_0_M13, q100_1_M13, q100_2_M13, q100_3_M13, q100_49_M13, q100_50_M13, q100_51_M13, q100_52_M13, q103_0_M13, q103_1_M13, by omega⟩
set_option maxHeartbeats 4000000 in
set_option maxRecDepth 100000 in
theorem l_X10_evening_111 (X : Cx) (M : Mm) (hi : IM M) : ∀ (kk : Nat) (ci : Int) (M1 : Mm) (ic1 : IM M1) (fr1 : Fr (fun c => 97 ≤ c ∧ c ≤ 116) M M1) (q99_0 : (M1 99 0 = M 99 0)) (q99_1 : (M1 99 1 = M 99 1)) (q99_2 : (M1 99 2 = M 99 2)) (q99_3 : (M1 99 3 = M 99 3)) (q100_0 : id (M1 100 0 = M 100 0)) (q100_1 : id (M1 100 1 = M 100 1)) (q100_2 : id (M1 100 2 = M 100 2)) (q100_3 : id (M1 100 3 = M 100 3)) (q100_49 : id (M1 100 49 = M 100 49)) (q100_50 : id (M1 100 50 = M 100 50)) (q100_51 : id (M1 100 51 = M 100 51)) (q100_52 : id (M1 100 52 = M 100 52)) (q103_0 : id (M1 103 0 = M 103 0)) (q103_1 : id (M1 103 1 = M 103 1)) (cls1 : CLS M1) (kn1 : ∀ j : Nat, j < 25 → M1 104 (25 + j) = M 101 j) (tz : M1 97 12 = 0) (n1 : 0 ≤ M1 97 19 ∧ M1 97 19 ≤ 12) (hd1 : 0 ≤ M1 97 32 ∧ M1 97 32 ≤ 20 * ci) (hk : 0 ≤ ci ∧ ci ≤ M1 97 19), (M1 97 19 - ci).toNat = kk → G X 12 RX10 cX10_evening 4 (some .int) (Qi (fun r M1 => IM M1 ∧ Fr (fun c => 97 ≤ c ∧ c ≤ 116) M M1 ∧ M1 99 0 = M 99 0 ∧ M1 99 1 = M 99 1 ∧ M1 99 2 = M 99 2 ∧ M1 99 3 = M 99 3 ∧ M1 100 0 = M 100 0 ∧ M1 100 1 = M 100 1 ∧ M1 100 2 = M 100 2 ∧ M1 100 3 = M 100 3 ∧ M1 100 49 = M 100 49 ∧ M1 100 50 = M 100 50 ∧ M1 100 51 = M 100 51 ∧ M1 100 52 = M 100 52 ∧ M1 103 0 = M 103 0 ∧ M1 103 1 = M 103 1 ∧ (inI r ∧ M1 97 12 = 0))) 111 [(1, vi ci), (0, vr X 97)] [] M1 := by
  intro kk
  induction kk using Nat.strongRecOn with
  | ind kk ih =>
    intro ci M1 ic1 fr1 q99_0 q99_1 q99_2 q99_3 q100_0 q100_1 q100_2 q100_3 q100_49 q100_50 q100_51 q100_52 q103_0 q103_1 cls1 kn1 tz n1 hd1 hk hmes
    have p0 := hi.1.1
    have p1 := hi.1.2.1
    have p2 := hi.1.2.2.1
    have p3 := hi.1.2.2.2.1
    have p12 := hi.2.2.2.1
    refine g_iload_n (pc' := 112) 0 dX10_evening_111 rfl rfl ?_
    refine g_aload_n (pc' := 113) 1 dX10_evening_112 rfl rfl ?_
    refine g_getI (pc' := 116) dX10_evening_113 rfl f_X10_284 rfl rfl (fun v2 ev2 rv2 => ?_)
    refine g_ic_ge (pc' := 119) (tgt := 179) ⟨by omega, by omega⟩ rv2 dX10_evening_116 rfl rfl (fun c3 => ?_) (fun c3 => ?_)
    · refine g_aload_n (pc' := 180) 1 dX10_evening_179 rfl rfl ?_
      refine g_aload_n (pc' := 181) 1 dX10_evening_180 rfl rfl ?_
      refine g_getI (pc' := 184) dX10_evening_181 rfl f_X10_298 rfl rfl (fun v4 ev4 rv4 => ?_)
      refine g_callVi (pc' := 187) (As := [vi v4]) (b := 97) (S := []) dX10_evening_184 rfl m_X10_87 w_X10_tell (c_X10_tell X M1 ic1 v4 rv4 (by omega)) rfl ⟨_, _, _, rfl, rfl, rfl⟩ (by decide) (by decide) rfl (Nat.le_of_ble_eq_true rfl) (fun z6 M7 q5 => ?_)
      obtain ⟨iM7, fM70, eM7_99_0, eM7_99_1, eM7_99_2, eM7_99_3, eM7_100_0, eM7_100_1, eM7_100_2, eM7_100_3, eM7_100_49, eM7_100_50, eM7_100_51, eM7_100_52, eM7_103_0, eM7_103_1, eM7_97_12, pM7⟩ := q5
      have fM7 : Fr (fun c => 97 ≤ c ∧ c ≤ 116) M M7 := Fr.tr fr1 fM70 fi_23
      have q99_0_M7 : (M7 99 0 = M 99 0) := eM7_99_0.trans q99_0
      have q99_1_M7 : (M7 99 1 = M 99 1) := eM7_99_1.trans q99_1
      have q99_2_M7 : (M7 99 2 = M 99 2) := eM7_99_2.trans q99_2
      have q99_3_M7 : (M7 99 3 = M 99 3) := eM7_99_3.trans q99_3
      have q100_0_M7 : id (M7 100 0 = M 100 0) := eM7_100_0.trans q100_0
      have q100_1_M7 : id (M7 100 1 = M 100 1) := eM7_100_1.trans q100_1
      have q100_2_M7 : id (M7 100 2 = M 100 2) := eM7_100_2.trans q100_2
      have q100_3_M7 : id (M7 100 3 = M 100 3) := eM7_100_3.trans q100_3
      have q100_49_M7 : id (M7 100 49 = M 100 49) := eM7_100_49.trans q100_49
      have q100_50_M7 : id (M7 100 50 = M 100 50) := eM7_100_50.trans q100_50
      have q100_51_M7 : id (M7 100 51 = M 100 51) := eM7_100_51.trans q100_51
      have q100_52_M7 : id (M7 100 52 = M 100 52) := eM7_100_52.trans q100_52
      have q103_0_M7 : id (M7 103 0 = M 103 0) := eM7_103_0.trans q103_0
      have q103_1_M7 : id (M7 103 1 = M 103 1) := eM7_103_1.trans q103_1
      have wM7_97_12 : M7 97 12 = M1 97 12 := eM7_97_12
      clear eM7_100_0 eM7_100_1 eM7_100_2 eM7_100_3 eM7_100_49 eM7_100_50 eM7_100_51 eM7_100_52 eM7_103_0 eM7_103_1
      refine g_ireturn dX10_evening_187 ?_
      exact ⟨iM7, fM7, q99_0_M7, q99_1_M7, q99_2_M7, q99_3_M7, q100_0_M7, q100_1_M7, q100_2_M7, q100_3_M7, q100_49_M7, q100_50_M7, q100_51_M7, q100_52_M7, q103_0_M7, q103_1_M7, by omega⟩
    · refine g_iconst (pc' := 120) dX10_evening_119 rfl ?_
      refine g_istore_n (pc' := 121) (i := 2) (L' := [(2, vi 0), (1, vi ci), (0, vr X 97)]) dX10_evening_120 rfl rfl (by decide) rfl ?_
      refine g_sub [1, 0, 2] rfl ?_
      exact l_X10_evening_121 X M hi kk ih _ ci 0 M1 ic1 fr1 q99_0 q99_1 q99_2 q99_3 q100_0 q100_1 q100_2 q100_3 q100_49 q100_50 q100_51 q100_52 q103_0 q103_1 cls1 kn1 (by omega) (by omega) (by omega) (by omega) (by omega) (by omega) rfl
set_option maxHeartbeats 4000000 in
set_option maxRecDepth 100000 in
theorem j_X10_evening_79 (X : Cx) (M : Mm) (hi : IM M)  (M1 : Mm) (ic1 : IM M1) (fr1 : Fr (fun c => 97 ≤ c ∧ c ≤ 116) M M1) (q99_0 : (M1 99 0 = M 99 0)) (q99_1 : (M1 99 1 = M 99 1)) (q99_2 : (M1 99 2 = M 99 2)) (q99_3 : (M1 99 3 = M 99 3)) (q100_0 : id (M1 100 0 = M 100 0)) (q100_1 : id (M1 100 1 = M 100 1)) (q100_2 : id (M1 100 2 = M 100 2)) (q100_3 : id (M1 100 3 = M 100 3)) (q100_49 : id (M1 100 49 = M 100 49)) (q100_50 : id (M1 100 50 = M 100 50)) (q100_51 : id (M1 100 51 = M 100 51)) (q100_52 : id (M1 100 52 = M 100 52)) (q103_0 : id (M1 103 0 = M 103 0)) (q103_1 : id (M1 103 1 = M 103 1)) (cb1 : CB M1) (n1 : (0 ≤ M1 97 19 ∧ M1 97 19 ≤ 12) ∧ (0 ≤ M1 97 21)) (c1 : M1 101 = M 101) : G X 12 RX10 cX10_evening 4 (some .int) (Qi (fun r M1 => IM M1 ∧ Fr (fun c => 97 ≤ c ∧ c ≤ 116) M M1 ∧ M1 99 0 = M 99 0 ∧ M1 99 1 = M 99 1 ∧ M1 99 2 = M 99 2 ∧ M1 99 3 = M 99 3 ∧ M1 100 0 = M 100 0 ∧ M1 100 1 = M 100 1 ∧ M1 100 2 = M 100 2 ∧ M1 100 3 = M 100 3 ∧ M1 100 49 = M 100 49 ∧ M1 100 50 = M 100 50 ∧ M1 100 51 = M 100 51 ∧ M1 100 52 = M 100 52 ∧ M1 103 0 = M 103 0 ∧ M1 103 1 = M 103 1 ∧ (inI r ∧ M1 97 12 = 0))) 79 [(0, vr X 97)] [] M1 := by
  have p0 := hi.1.1
  have p1 := hi.1.2.1
  have p2 := hi.1.2.2.1
  have p3 := hi.1.2.2.2.1
  have p12 := hi.2.2.2.1
  refine g_aload_n (pc' := 80) 0 dX10_evening_79 rfl rfl ?_
  refine g_iconst (pc' := 81) dX10_evening_80 rfl ?_
  refine g_putI (pc' := 84) dX10_evening_81 rfl p_X10_142 rfl rfl (by decide) (fun M2 hM2 => ?_)
  have iM2 : IM M2 := IM.wr ic1 hM2 (by unfold okv; first | decide | omega)
  have fM2 : Fr (fun c => 97 ≤ c ∧ c ≤ 116) M M2 := Fr.wr fr1 hM2 (by first | decide | omega | (dsimp only; omega))
  have q99_0_M2 : (M2 99 0 = M 99 0) := (show M2 99 0 = M1 99 0 by rw [hM2]; exact mu_ne _ _ (by first | decide | omega)).trans q99_0
  have q99_1_M2 : (M2 99 1 = M 99 1) := (show M2 99 1 = M1 99 1 by rw [hM2]; exact mu_ne _ _ (by first | decide | omega)).trans q99_1
  have q99_2_M2 : (M2 99 2 = M 99 2) := (show M2 99 2 = M1 99 2 by rw [hM2]; exact mu_ne _ _ (by first | decide | omega)).trans q99_2
  have q99_3_M2 : (M2 99 3 = M 99 3) := (show M2 99 3 = M1 99 3 by rw [hM2]; exact mu_ne _ _ (by first | decide | omega)).trans q99_3
  have q100_0_M2 : id (M2 100 0 = M 100 0) := (show M2 100 0 = M1 100 0 by rw [hM2]; exact mu_ne _ _ (by first | decide | omega)).trans q100_0
  have q100_1_M2 : id (M2 100 1 = M 100 1) := (show M2 100 1 = M1 100 1 by rw [hM2]; exact mu_ne _ _ (by first | decide | omega)).trans q100_1
  have q100_2_M2 : id (M2 100 2 = M 100 2) := (show M2 100 2 = M1 100 2 by rw [hM2]; exact mu_ne _ _ (by first | decide | omega)).trans q100_2
  have q100_3_M2 : id (M2 100 3 = M 100 3) := (show M2 100 3 = M1 100 3 by rw [hM2]; exact mu_ne _ _ (by first | decide | omega)).trans q100_3
  have q100_49_M2 : id (M2 100 49 = M 100 49) := (show M2 100 49 = M1 100 49 by rw [hM2]; exact mu_ne _ _ (by first | decide | omega)).trans q100_49
  have q100_50_M2 : id (M2 100 50 = M 100 50) := (show M2 100 50 = M1 100 50 by rw [hM2]; exact mu_ne _ _ (by first | decide | omega)).trans q100_50
  have q100_51_M2 : id (M2 100 51 = M 100 51) := (show M2 100 51 = M1 100 51 by rw [hM2]; exact mu_ne _ _ (by first | decide | omega)).trans q100_51
  have q100_52_M2 : id (M2 100 52 = M 100 52) := (show M2 100 52 = M1 100 52 by rw [hM2]; exact mu_ne _ _ (by first | decide | omega)).trans q100_52
  have q103_0_M2 : id (M2 103 0 = M 103 0) := (show M2 103 0 = M1 103 0 by rw [hM2]; exact mu_ne _ _ (by first | decide | omega)).trans q103_0
  have q103_1_M2 : id (M2 103 1 = M 103 1) := (show M2 103 1 = M1 103 1 by rw [hM2]; exact mu_ne _ _ (by first | decide | omega)).trans q103_1
  have wM2_97_13 : M2 97 13 = M1 97 13 := by rw [hM2]; exact mu_ne _ _ (by first | decide | omega)
  have wM2_97_14 : M2 97 14 = M1 97 14 := by rw [hM2]; exact mu_ne _ _ (by first | decide | omega)
  have wM2_97_15 : M2 97 15 = M1 97 15 := by rw [hM2]; exact mu_ne _ _ (by first | decide | omega)
  have wM2_97_16 : M2 97 16 = M1 97 16 := by rw [hM2]; exact mu_ne _ _ (by first | decide | omega)
  have wM2_97_18 : M2 97 18 = M1 97 18 := by rw [hM2]; exact mu_ne _ _ (by first | decide | omega)
  have wM2_97_19 : M2 97 19 = M1 97 19 := by rw [hM2]; exact mu_ne _ _ (by first | decide | omega)
  have wM2_97_21 : M2 97 21 = M1 97 21 := by rw [hM2]; exact mu_ne _ _ (by first | decide | omega)
  have wM2_97_32 : M2 97 32 = M1 97 32 := by rw [hM2]; exact mu_ne _ _ (by first | decide | omega)
  have xM2_97_12 : M2 97 12 = 0 := by rw [hM2]; exact mu_at _ _ _ _
  have c1M2 : M2 101 = M 101 := (show M2 101 = M1 101 by rw [hM2, mu_cell _ _ (by decide)]).trans c1
  have cbM2 : CB M2 := CB.nx cb1 (by rw [hM2, mu_cell _ _ (by decide)]) (by rw [hM2, mu_cell _ _ (by decide)]) (by rw [hM2, mu_cell _ _ (by decide)]) (by omega) (by omega) (by omega)
  refine g_aload_n (pc' := 85) 0 dX10_evening_84 rfl rfl ?_
  refine g_getI (pc' := 88) dX10_evening_85 rfl f_X10_154 rfl rfl (fun v3 ev3 rv3 => ?_)
  refine g_if_eq (pc' := 91) (tgt := 98) rv3 dX10_evening_88 rfl rfl (fun c4 => ?_) (fun c4 => ?_)
  · refine g_aload_n (pc' := 99) 0 dX10_evening_98 rfl rfl ?_
    refine g_bipush (pc' := 101) (v := 25) dX10_evening_99 rfl (by decide) ?_
    refine g_callVv (pc' := 104) (As := [vi 25]) (b := 97) (S := []) dX10_evening_101 rfl m_X10_123 w_X10_keep (c_X10_keep X M2 25 (by decide) ⟨by omega, by omega⟩) rfl ⟨_, _, _, rfl, rfl, rfl⟩ (by decide) (by decide) rfl (Nat.le_of_ble_eq_true rfl) (fun M6 q5 => ?_)
    obtain ⟨fkM6, kpM6, usM6⟩ := q5
    have iM6 : IM M6 := IM.fr iM2 fkM6 (fun c z => by omega)
    have q99_0_M6 : M6 99 0 = M 99 0 := (congrFun (fkM6 99 (by omega)) 0).trans q99_0_M2
    have q99_1_M6 : M6 99 1 = M 99 1 := (congrFun (fkM6 99 (by omega)) 1).trans q99_1_M2
    have q99_2_M6 : M6 99 2 = M 99 2 := (congrFun (fkM6 99 (by omega)) 2).trans q99_2_M2
    have q99_3_M6 : M6 99 3 = M 99 3 := (congrFun (fkM6 99 (by omega)) 3).trans q99_3_M2
    have q100_0_M6 : M6 100 0 = M 100 0 := (congrFun (fkM6 100 (by omega)) 0).trans q100_0_M2
    have q100_1_M6 : M6 100 1 = M 100 1 := (congrFun (fkM6 100 (by omega)) 1).trans q100_1_M2
    have q100_2_M6 : M6 100 2 = M 100 2 := (congrFun (fkM6 100 (by omega)) 2).trans q100_2_M2
    have q100_3_M6 : M6 100 3 = M 100 3 := (congrFun (fkM6 100 (by omega)) 3).trans q100_3_M2
    have q100_49_M6 : M6 100 49 = M 100 49 := (congrFun (fkM6 100 (by omega)) 49).trans q100_49_M2
    have q100_50_M6 : M6 100 50 = M 100 50 := (congrFun (fkM6 100 (by omega)) 50).trans q100_50_M2
    have q100_51_M6 : M6 100 51 = M 100 51 := (congrFun (fkM6 100 (by omega)) 51).trans q100_51_M2
    have q100_52_M6 : M6 100 52 = M 100 52 := (congrFun (fkM6 100 (by omega)) 52).trans q100_52_M2
    have q103_0_M6 : M6 103 0 = M 103 0 := (congrFun (fkM6 103 (by omega)) 0).trans q103_0_M2
    have q103_1_M6 : M6 103 1 = M 103 1 := (congrFun (fkM6 103 (by omega)) 1).trans q103_1_M2
    have fM6 : Fr (fun c => 97 ≤ c ∧ c ≤ 116) M M6 := Fr.tr fM2 fkM6 (fun c z => by omega)
    have wM6_97_12 := congrFun (fkM6 97 (by omega)) 12
    have wM6_97_13 := congrFun (fkM6 97 (by omega)) 13
    have wM6_97_14 := congrFun (fkM6 97 (by omega)) 14
    have wM6_97_15 := congrFun (fkM6 97 (by omega)) 15
    have wM6_97_16 := congrFun (fkM6 97 (by omega)) 16
    have wM6_97_18 := congrFun (fkM6 97 (by omega)) 18
    have wM6_97_19 := congrFun (fkM6 97 (by omega)) 19
    have wM6_97_21 := congrFun (fkM6 97 (by omega)) 21
    have wM6_97_32 := congrFun (fkM6 97 (by omega)) 32
    have knM6 : ∀ j : Nat, j < 25 → M6 104 (25 + j) = M 101 j := fun j hj => (kpM6 j hj).trans (by rw [c1M2])
    have clsM6 : CLS M6 := CLS.nx (cbM2 (by omega)) (fkM6 107 (by decide)) (fkM6 108 (by decide)) (fkM6 109 (by decide)) (by omega) (by omega)
    refine g_aload_n (pc' := 105) 0 dX10_evening_104 rfl rfl ?_
    refine g_iconst (pc' := 106) dX10_evening_105 rfl ?_
    refine g_putI (pc' := 109) dX10_evening_106 rfl p_X10_298 rfl rfl (by decide) (fun M7 hM7 => ?_)
    have iM7 : IM M7 := IM.wr iM6 hM7 (by unfold okv; first | decide | omega)
    have fM7 : Fr (fun c => 97 ≤ c ∧ c ≤ 116) M M7 := Fr.wr fM6 hM7 (by first | decide | omega | (dsimp only; omega))
    have q99_0_M7 : (M7 99 0 = M 99 0) := (show M7 99 0 = M6 99 0 by rw [hM7]; exact mu_ne _ _ (by first | decide | omega)).trans q99_0_M6
    have q99_1_M7 : (M7 99 1 = M 99 1) := (show M7 99 1 = M6 99 1 by rw [hM7]; exact mu_ne _ _ (by first | decide | omega)).trans q99_1_M6
    have q99_2_M7 : (M7 99 2 = M 99 2) := (show M7 99 2 = M6 99 2 by rw [hM7]; exact mu_ne _ _ (by first | decide | omega)).trans q99_2_M6
    have q99_3_M7 : (M7 99 3 = M 99 3) := (show M7 99 3 = M6 99 3 by rw [hM7]; exact mu_ne _ _ (by first | decide | omega)).trans q99_3_M6
    have q100_0_M7 : id (M7 100 0 = M 100 0) := (show M7 100 0 = M6 100 0 by rw [hM7]; exact mu_ne _ _ (by first | decide | omega)).trans q100_0_M6
    have q100_1_M7 : id (M7 100 1 = M 100 1) := (show M7 100 1 = M6 100 1 by rw [hM7]; exact mu_ne _ _ (by first | decide | omega)).trans q100_1_M6
    have q100_2_M7 : id (M7 100 2 = M 100 2) := (show M7 100 2 = M6 100 2 by rw [hM7]; exact mu_ne _ _ (by first | decide | omega)).trans q100_2_M6
    have q100_3_M7 : id (M7 100 3 = M 100 3) := (show M7 100 3 = M6 100 3 by rw [hM7]; exact mu_ne _ _ (by first | decide | omega)).trans q100_3_M6
    have q100_49_M7 : id (M7 100 49 = M 100 49) := (show M7 100 49 = M6 100 49 by rw [hM7]; exact mu_ne _ _ (by first | decide | omega)).trans q100_49_M6
    have q100_50_M7 : id (M7 100 50 = M 100 50) := (show M7 100 50 = M6 100 50 by rw [hM7]; exact mu_ne _ _ (by first | decide | omega)).trans q100_50_M6
    have q100_51_M7 : id (M7 100 51 = M 100 51) := (show M7 100 51 = M6 100 51 by rw [hM7]; exact mu_ne _ _ (by first | decide | omega)).trans q100_51_M6
    have q100_52_M7 : id (M7 100 52 = M 100 52) := (show M7 100 52 = M6 100 52 by rw [hM7]; exact mu_ne _ _ (by first | decide | omega)).trans q100_52_M6
    have q103_0_M7 : id (M7 103 0 = M 103 0) := (show M7 103 0 = M6 103 0 by rw [hM7]; exact mu_ne _ _ (by first | decide | omega)).trans q103_0_M6
    have q103_1_M7 : id (M7 103 1 = M 103 1) := (show M7 103 1 = M6 103 1 by rw [hM7]; exact mu_ne _ _ (by first | decide | omega)).trans q103_1_M6
    have wM7_97_12 : M7 97 12 = M6 97 12 := by rw [hM7]; exact mu_ne _ _ (by first | decide | omega)
    have wM7_97_13 : M7 97 13 = M6 97 13 := by rw [hM7]; exact mu_ne _ _ (by first | decide | omega)
    have wM7_97_14 : M7 97 14 = M6 97 14 := by rw [hM7]; exact mu_ne _ _ (by first | decide | omega)
    have wM7_97_15 : M7 97 15 = M6 97 15 := by rw [hM7]; exact mu_ne _ _ (by first | decide | omega)
    have wM7_97_16 : M7 97 16 = M6 97 16 := by rw [hM7]; exact mu_ne _ _ (by first | decide | omega)
    have wM7_97_18 : M7 97 18 = M6 97 18 := by rw [hM7]; exact mu_ne _ _ (by first | decide | omega)
    have wM7_97_19 : M7 97 19 = M6 97 19 := by rw [hM7]; exact mu_ne _ _ (by first | decide | omega)
    have wM7_97_21 : M7 97 21 = M6 97 21 := by rw [hM7]; exact mu_ne _ _ (by first | decide | omega)
    have xM7_97_32 : M7 97 32 = 0 := by rw [hM7]; exact mu_at _ _ _ _
    have knM7 : ∀ j : Nat, j < 25 → M7 104 (25 + j) = M 101 j := fun j hj => by rw [hM7, mu_cell _ _ (by decide)]; exact knM6 j hj
    have clsM7 : CLS M7 := CLS.nx clsM6 (by rw [hM7, mu_cell _ _ (by decide)]) (by rw [hM7, mu_cell _ _ (by decide)]) (by rw [hM7, mu_cell _ _ (by decide)]) (by omega) (by omega)
    refine g_iconst (pc' := 110) dX10_evening_109 rfl ?_
    refine g_istore_n (pc' := 111) (i := 1) (L' := [(1, vi 0), (0, vr X 97)]) dX10_evening_110 rfl rfl (by decide) rfl ?_
    refine g_sub [0, 1] rfl ?_
    exact l_X10_evening_111 X M hi _ 0 M7 iM7 fM7 q99_0_M7 q99_1_M7 q99_2_M7 q99_3_M7 q100_0_M7 q100_1_M7 q100_2_M7 q100_3_M7 q100_49_M7 q100_50_M7 q100_51_M7 q100_52_M7 q103_0_M7 q103_1_M7 clsM7 knM7 (by omega) (by omega) (by omega) (by omega) rfl
  · refine g_aload_n (pc' := 92) 0 dX10_evening_91 rfl rfl ?_
    refine g_bipush (pc' := 94) (v := (-6)) dX10_evening_92 rfl (by decide) ?_
    refine g_callVi (pc' := 97) (As := [vi (-6)]) (b := 97) (S := []) dX10_evening_94 rfl m_X10_87 w_X10_tell (c_X10_tell X M2 iM2 (-6) (by decide) (by omega)) rfl ⟨_, _, _, rfl, rfl, rfl⟩ (by decide) (by decide) rfl (Nat.le_of_ble_eq_true rfl) (fun z9 M10 q8 => ?_)
    obtain ⟨iM10, fM100, eM10_99_0, eM10_99_1, eM10_99_2, eM10_99_3, eM10_100_0, eM10_100_1, eM10_100_2, eM10_100_3, eM10_100_49, eM10_100_50, eM10_100_51, eM10_100_52, eM10_103_0, eM10_103_1, eM10_97_12, pM10⟩ := q8
    have fM10 : Fr (fun c => 97 ≤ c ∧ c ≤ 116) M M10 := Fr.tr fM2 fM100 fi_23
    have q99_0_M10 : (M10 99 0 = M 99 0) := eM10_99_0.trans q99_0_M2
    have q99_1_M10 : (M10 99 1 = M 99 1) := eM10_99_1.trans q99_1_M2
    have q99_2_M10 : (M10 99 2 = M 99 2) := eM10_99_2.trans q99_2_M2
    have q99_3_M10 : (M10 99 3 = M 99 3) := eM10_99_3.trans q99_3_M2
    have q100_0_M10 : id (M10 100 0 = M 100 0) := eM10_100_0.trans q100_0_M2
    have q100_1_M10 : id (M10 100 1 = M 100 1) := eM10_100_1.trans q100_1_M2
    have q100_2_M10 : id (M10 100 2 = M 100 2) := eM10_100_2.trans q100_2_M2
    have q100_3_M10 : id (M10 100 3 = M 100 3) := eM10_100_3.trans q100_3_M2
    have q100_49_M10 : id (M10 100 49 = M 100 49) := eM10_100_49.trans q100_49_M2
    have q100_50_M10 : id (M10 100 50 = M 100 50) := eM10_100_50.trans q100_50_M2
    have q100_51_M10 : id (M10 100 51 = M 100 51) := eM10_100_51.trans q100_51_M2
    have q100_52_M10 : id (M10 100 52 = M 100 52) := eM10_100_52.trans q100_52_M2
    have q103_0_M10 : id (M10 103 0 = M 103 0) := eM10_103_0.trans q103_0_M2
    have q103_1_M10 : id (M10 103 1 = M 103 1) := eM10_103_1.trans q103_1_M2
    have wM10_97_12 : M10 97 12 = M2 97 12 := eM10_97_12
    have xM10_97_12 : M10 97 12 = 0 := eM10_97_12.trans xM2_97_12
    clear eM10_100_0 eM10_100_1 eM10_100_2 eM10_100_3 eM10_100_49 eM10_100_50 eM10_100_51 eM10_100_52 eM10_103_0 eM10_103_1
    refine g_ireturn dX10_evening_97 ?_
    exact ⟨iM10, fM10, q99_0_M10, q99_1_M10, q99_2_M10, q99_3_M10, q100_0_M10, q100_1_M10, q100_2_M10, q100_3_M10, q100_49_M10, q100_50_M10, q100_51_M10, q100_52_M10, q103_0_M10, q103_1_M10, by omega⟩
set_option maxHeartbeats 4000000 in
set_option maxRecDepth 100000 in
theorem l_X10_evening_33 (X : Cx) (M : Mm) (hi : IM M) : ∀ (kk : Nat)  (M1 : Mm) (ic1 : IM M1) (fr1 : Fr (fun c => 97 ≤ c ∧ c ≤ 116) M M1) (q99_0 : (M1 99 0 = M 99 0)) (q99_1 : (M1 99 1 = M 99 1)) (q99_2 : (M1 99 2 = M 99 2)) (q99_3 : (M1 99 3 = M 99 3)) (q100_0 : id (M1 100 0 = M 100 0)) (q100_1 : id (M1 100 1 = M 100 1)) (q100_2 : id (M1 100 2 = M 100 2)) (q100_3 : id (M1 100 3 = M 100 3)) (q100_49 : id (M1 100 49 = M 100 49)) (q100_50 : id (M1 100 50 = M 100 50)) (q100_51 : id (M1 100 51 = M 100 51)) (q100_52 : id (M1 100 52 = M 100 52)) (q103_0 : id (M1 103 0 = M 103 0)) (q103_1 : id (M1 103 1 = M 103 1)) (tk1 : TK M1) (n2 : M1 97 21 ≤ M1 97 13) (cb1 : CB M1) (n1 : (0 ≤ M1 97 19 ∧ M1 97 19 ≤ 12) ∧ (0 ≤ M1 97 21)) (c1 : M1 101 = M 101), (400 - M1 97 13).toNat = kk → G X 12 RX10 cX10_evening 4 (some .int) (Qi (fun r M1 => IM M1 ∧ Fr (fun c => 97 ≤ c ∧ c ≤ 116) M M1 ∧ M1 99 0 = M 99 0 ∧ M1 99 1 = M 99 1 ∧ M1 99 2 = M 99 2 ∧ M1 99 3 = M 99 3 ∧ M1 100 0 = M 100 0 ∧ M1 100 1 = M 100 1 ∧ M1 100 2 = M 100 2 ∧ M1 100 3 = M 100 3 ∧ M1 100 49 = M 100 49 ∧ M1 100 50 = M 100 50 ∧ M1 100 51 = M 100 51 ∧ M1 100 52 = M 100 52 ∧ M1 103 0 = M 103 0 ∧ M1 103 1 = M 103 1 ∧ (inI r ∧ M1 97 12 = 0))) 33 [(0, vr X 97)] [] M1 := by
  intro kk
  induction kk using Nat.strongRecOn with
  | ind kk ih =>
    intro M1 ic1 fr1 q99_0 q99_1 q99_2 q99_3 q100_0 q100_1 q100_2 q100_3 q100_49 q100_50 q100_51 q100_52 q103_0 q103_1 tk1 n2 cb1 n1 c1 hmes
    have p0 := hi.1.1
    have p1 := hi.1.2.1
    have p2 := hi.1.2.2.1
    have p3 := hi.1.2.2.2.1
    have p12 := hi.2.2.2.1
    have p12b := ic1.2.2.2.1
    have tb1 := tk1.b
    have lt1 := tk1.lt
    refine g_aload_n (pc' := 34) 0 dX10_evening_33 rfl rfl ?_
    refine g_getI (pc' := 37) dX10_evening_34 rfl f_X10_154 rfl rfl (fun v2 ev2 rv2 => ?_)
    refine g_if_ne (pc' := 40) (tgt := 60) rv2 dX10_evening_37 rfl rfl (fun c3 => ?_) (fun c3 => ?_)
    · refine g_aload_n (pc' := 61) 0 dX10_evening_60 rfl rfl ?_
      refine g_getI (pc' := 64) dX10_evening_61 rfl f_X10_154 rfl rfl (fun v4 ev4 rv4 => ?_)
      obtain rfl : v2 = v4 := ev2.trans ev4.symm
      refine g_if_ne (pc' := 67) (tgt := 79) rv2 dX10_evening_64 rfl rfl (fun c5 => ?_) (fun c5 => ?_)
      · refine g_sub [0] rfl ?_
        exact j_X10_evening_79 X M hi M1 ic1 fr1 q99_0 q99_1 q99_2 q99_3 q100_0 q100_1 q100_2 q100_3 q100_49 q100_50 q100_51 q100_52 q103_0 q103_1 cb1 (by omega) c1
      · refine g_aload_n (pc' := 68) 0 dX10_evening_67 rfl rfl ?_
        refine g_getI (pc' := 71) dX10_evening_68 rfl f_X10_174 rfl rfl (fun v6 ev6 rv6 => ?_)
        refine g_if_eq (pc' := 74) (tgt := 79) rv6 dX10_evening_71 rfl rfl (fun c7 => ?_) (fun c7 => ?_)
        · refine g_sub [0] rfl ?_
          exact j_X10_evening_79 X M hi M1 ic1 fr1 q99_0 q99_1 q99_2 q99_3 q100_0 q100_1 q100_2 q100_3 q100_49 q100_50 q100_51 q100_52 q103_0 q103_1 cb1 (by omega) c1
        · refine g_aload_n (pc' := 75) 0 dX10_evening_74 rfl rfl ?_
          refine g_iconst (pc' := 76) dX10_evening_75 rfl ?_
          refine g_callVv (pc' := 79) (As := [vi 0]) (b := 97) (S := []) dX10_evening_76 rfl m_X10_187 w_X10_must (c_X10_must X M1 ic1 0 (by decide) tk1) rfl ⟨_, _, _, rfl, rfl, rfl⟩ (by decide) (by decide) rfl (Nat.le_of_ble_eq_true rfl) (fun M9 q8 => ?_)
          obtain ⟨iM9, fM90, eM9_97_12, eM9_97_19, eM9_97_21, eM9_97_24, eM9_97_27, eM9_97_28, pM9⟩ := q8
          have fM9 : Fr (fun c => 97 ≤ c ∧ c ≤ 116) M M9 := Fr.tr fr1 fM90 fi_26
          have q99_0_M9 : (M9 99 0 = M 99 0) := (congrFun (fM90 99 (by first | decide | omega | (dsimp only; omega))) 0).trans q99_0
          have q99_1_M9 : (M9 99 1 = M 99 1) := (congrFun (fM90 99 (by first | decide | omega | (dsimp only; omega))) 1).trans q99_1
          have q99_2_M9 : (M9 99 2 = M 99 2) := (congrFun (fM90 99 (by first | decide | omega | (dsimp only; omega))) 2).trans q99_2
          have q99_3_M9 : (M9 99 3 = M 99 3) := (congrFun (fM90 99 (by first | decide | omega | (dsimp only; omega))) 3).trans q99_3
          have q100_0_M9 : id (M9 100 0 = M 100 0) := (congrFun (fM90 100 (by first | decide | omega | (dsimp only; omega))) 0).trans q100_0
          have q100_1_M9 : id (M9 100 1 = M 100 1) := (congrFun (fM90 100 (by first | decide | omega | (dsimp only; omega))) 1).trans q100_1
          have q100_2_M9 : id (M9 100 2 = M 100 2) := (congrFun (fM90 100 (by first | decide | omega | (dsimp only; omega))) 2).trans q100_2
          have q100_3_M9 : id (M9 100 3 = M 100 3) := (congrFun (fM90 100 (by first | decide | omega | (dsimp only; omega))) 3).trans q100_3
          have q100_49_M9 : id (M9 100 49 = M 100 49) := (congrFun (fM90 100 (by first | decide | omega | (dsimp only; omega))) 49).trans q100_49
          have q100_50_M9 : id (M9 100 50 = M 100 50) := (congrFun (fM90 100 (by first | decide | omega | (dsimp only; omega))) 50).trans q100_50
          have q100_51_M9 : id (M9 100 51 = M 100 51) := (congrFun (fM90 100 (by first | decide | omega | (dsimp only; omega))) 51).trans q100_51
          have q100_52_M9 : id (M9 100 52 = M 100 52) := (congrFun (fM90 100 (by first | decide | omega | (dsimp only; omega))) 52).trans q100_52
          have q103_0_M9 : id (M9 103 0 = M 103 0) := (congrFun (fM90 103 (by first | decide | omega | (dsimp only; omega))) 0).trans q103_0
          have q103_1_M9 : id (M9 103 1 = M 103 1) := (congrFun (fM90 103 (by first | decide | omega | (dsimp only; omega))) 1).trans q103_1
          have wM9_97_12 : M9 97 12 = M1 97 12 := eM9_97_12
          have wM9_97_19 : M9 97 19 = M1 97 19 := eM9_97_19
          have wM9_97_21 : M9 97 21 = M1 97 21 := eM9_97_21
          have c1M9 : M9 101 = M 101 := (fM90 101 (by decide)).trans c1
          obtain ⟨aM9p, bM9p, cM9p, kM9p⟩ := pM9
          have tkM9 : TK M9 := kM9p
          clear kM9p
          have tbM9 := tkM9.b
          have cbM9 : CB M9 := CB.nx cb1 (fM90 107 (by decide)) (fM90 108 (by decide)) (fM90 109 (by decide)) (by omega) (by omega) (by omega)
          refine g_sub [0] rfl ?_
          exact j_X10_evening_79 X M hi M9 iM9 fM9 q99_0_M9 q99_1_M9 q99_2_M9 q99_3_M9 q100_0_M9 q100_1_M9 q100_2_M9 q100_3_M9 q100_49_M9 q100_50_M9 q100_51_M9 q100_52_M9 q103_0_M9 q103_1_M9 cbM9 (by omega) c1M9
    · refine g_aload_n (pc' := 41) 0 dX10_evening_40 rfl rfl ?_
      refine g_bipush (pc' := 43) (v := 59) dX10_evening_41 rfl (by decide) ?_
      refine g_callVip (pc' := 46) (As := [vi 59]) (b := 97) (S := []) dX10_evening_43 rfl m_X10_221 w_X10_isSign (c_X10_isSign X M1 ic1 59 (by decide)) rfl ⟨_, _, _, rfl, rfl, rfl⟩ (by decide) (by decide) rfl (Nat.le_of_ble_eq_true rfl) (fun z11 q10 => ?_)
      refine g_if_eq (pc' := 49) (tgt := 60) ⟨by omega, by omega⟩ dX10_evening_46 rfl rfl (fun c12 => ?_) (fun c12 => ?_)
      · refine g_aload_n (pc' := 61) 0 dX10_evening_60 rfl rfl ?_
        refine g_getI (pc' := 64) dX10_evening_61 rfl f_X10_154 rfl rfl (fun v13 ev13 rv13 => ?_)
        obtain rfl : v2 = v13 := ev2.trans ev13.symm
        refine g_if_ne (pc' := 67) (tgt := 79) rv2 dX10_evening_64 rfl rfl (fun c14 => ?_) (fun c14 => ?_)
        · refine g_sub [0] rfl ?_
          exact j_X10_evening_79 X M hi M1 ic1 fr1 q99_0 q99_1 q99_2 q99_3 q100_0 q100_1 q100_2 q100_3 q100_49 q100_50 q100_51 q100_52 q103_0 q103_1 cb1 (by omega) c1
        · refine g_aload_n (pc' := 68) 0 dX10_evening_67 rfl rfl ?_
          refine g_getI (pc' := 71) dX10_evening_68 rfl f_X10_174 rfl rfl (fun v15 ev15 rv15 => ?_)
          refine g_if_eq (pc' := 74) (tgt := 79) rv15 dX10_evening_71 rfl rfl (fun c16 => ?_) (fun c16 => ?_)
          · refine g_sub [0] rfl ?_
            exact j_X10_evening_79 X M hi M1 ic1 fr1 q99_0 q99_1 q99_2 q99_3 q100_0 q100_1 q100_2 q100_3 q100_49 q100_50 q100_51 q100_52 q103_0 q103_1 cb1 (by omega) c1
          · refine g_aload_n (pc' := 75) 0 dX10_evening_74 rfl rfl ?_
            refine g_iconst (pc' := 76) dX10_evening_75 rfl ?_
            refine g_callVv (pc' := 79) (As := [vi 0]) (b := 97) (S := []) dX10_evening_76 rfl m_X10_187 w_X10_must (c_X10_must X M1 ic1 0 (by decide) tk1) rfl ⟨_, _, _, rfl, rfl, rfl⟩ (by decide) (by decide) rfl (Nat.le_of_ble_eq_true rfl) (fun M18 q17 => ?_)
            obtain ⟨iM18, fM180, eM18_97_12, eM18_97_19, eM18_97_21, eM18_97_24, eM18_97_27, eM18_97_28, pM18⟩ := q17
            have fM18 : Fr (fun c => 97 ≤ c ∧ c ≤ 116) M M18 := Fr.tr fr1 fM180 fi_26
            have q99_0_M18 : (M18 99 0 = M 99 0) := (congrFun (fM180 99 (by first | decide | omega | (dsimp only; omega))) 0).trans q99_0
            have q99_1_M18 : (M18 99 1 = M 99 1) := (congrFun (fM180 99 (by first | decide | omega | (dsimp only; omega))) 1).trans q99_1
            have q99_2_M18 : (M18 99 2 = M 99 2) := (congrFun (fM180 99 (by first | decide | omega | (dsimp only; omega))) 2).trans q99_2
            have q99_3_M18 : (M18 99 3 = M 99 3) := (congrFun (fM180 99 (by first | decide | omega | (dsimp only; omega))) 3).trans q99_3
            have q100_0_M18 : id (M18 100 0 = M 100 0) := (congrFun (fM180 100 (by first | decide | omega | (dsimp only; omega))) 0).trans q100_0
            have q100_1_M18 : id (M18 100 1 = M 100 1) := (congrFun (fM180 100 (by first | decide | omega | (dsimp only; omega))) 1).trans q100_1
            have q100_2_M18 : id (M18 100 2 = M 100 2) := (congrFun (fM180 100 (by first | decide | omega | (dsimp only; omega))) 2).trans q100_2
            have q100_3_M18 : id (M18 100 3 = M 100 3) := (congrFun (fM180 100 (by first | decide | omega | (dsimp only; omega))) 3).trans q100_3
            have q100_49_M18 : id (M18 100 49 = M 100 49) := (congrFun (fM180 100 (by first | decide | omega | (dsimp only; omega))) 49).trans q100_49
            have q100_50_M18 : id (M18 100 50 = M 100 50) := (congrFun (fM180 100 (by first | decide | omega | (dsimp only; omega))) 50).trans q100_50
            have q100_51_M18 : id (M18 100 51 = M 100 51) := (congrFun (fM180 100 (by first | decide | omega | (dsimp only; omega))) 51).trans q100_51
            have q100_52_M18 : id (M18 100 52 = M 100 52) := (congrFun (fM180 100 (by first | decide | omega | (dsimp only; omega))) 52).trans q100_52
            have q103_0_M18 : id (M18 103 0 = M 103 0) := (congrFun (fM180 103 (by first | decide | omega | (dsimp only; omega))) 0).trans q103_0
            have q103_1_M18 : id (M18 103 1 = M 103 1) := (congrFun (fM180 103 (by first | decide | omega | (dsimp only; omega))) 1).trans q103_1
            have wM18_97_12 : M18 97 12 = M1 97 12 := eM18_97_12
            have wM18_97_19 : M18 97 19 = M1 97 19 := eM18_97_19
            have wM18_97_21 : M18 97 21 = M1 97 21 := eM18_97_21
            have c1M18 : M18 101 = M 101 := (fM180 101 (by decide)).trans c1
            obtain ⟨aM18p, bM18p, cM18p, kM18p⟩ := pM18
            have tkM18 : TK M18 := kM18p
            clear kM18p
            have tbM18 := tkM18.b
            have cbM18 : CB M18 := CB.nx cb1 (fM180 107 (by decide)) (fM180 108 (by decide)) (fM180 109 (by decide)) (by omega) (by omega) (by omega)
            refine g_sub [0] rfl ?_
            exact j_X10_evening_79 X M hi M18 iM18 fM18 q99_0_M18 q99_1_M18 q99_2_M18 q99_3_M18 q100_0_M18 q100_1_M18 q100_2_M18 q100_3_M18 q100_49_M18 q100_50_M18 q100_51_M18 q100_52_M18 q103_0_M18 q103_1_M18 cbM18 (by omega) c1M18
      · refine g_aload_n (pc' := 50) 0 dX10_evening_49 rfl rfl ?_
        refine g_callVv (pc' := 53) (As := []) (b := 97) (S := []) dX10_evening_50 rfl m_X10_158 w_X10_next (c_X10_next X M1 ic1 (by omega)) rfl ⟨_, _, _, rfl, rfl, rfl⟩ (by decide) (by decide) rfl (Nat.le_of_ble_eq_true rfl) (fun M20 q19 => ?_)
        obtain ⟨iM20, fM200, eM20_97_12, eM20_97_19, eM20_97_21, eM20_97_24, eM20_97_27, eM20_97_28, eM20_97_18, pM20⟩ := q19
        have fM20 : Fr (fun c => 97 ≤ c ∧ c ≤ 116) M M20 := Fr.tr fr1 fM200 fi_26
        have q99_0_M20 : (M20 99 0 = M 99 0) := (congrFun (fM200 99 (by first | decide | omega | (dsimp only; omega))) 0).trans q99_0
        have q99_1_M20 : (M20 99 1 = M 99 1) := (congrFun (fM200 99 (by first | decide | omega | (dsimp only; omega))) 1).trans q99_1
        have q99_2_M20 : (M20 99 2 = M 99 2) := (congrFun (fM200 99 (by first | decide | omega | (dsimp only; omega))) 2).trans q99_2
        have q99_3_M20 : (M20 99 3 = M 99 3) := (congrFun (fM200 99 (by first | decide | omega | (dsimp only; omega))) 3).trans q99_3
        have q100_0_M20 : id (M20 100 0 = M 100 0) := (congrFun (fM200 100 (by first | decide | omega | (dsimp only; omega))) 0).trans q100_0
        have q100_1_M20 : id (M20 100 1 = M 100 1) := (congrFun (fM200 100 (by first | decide | omega | (dsimp only; omega))) 1).trans q100_1
        have q100_2_M20 : id (M20 100 2 = M 100 2) := (congrFun (fM200 100 (by first | decide | omega | (dsimp only; omega))) 2).trans q100_2
        have q100_3_M20 : id (M20 100 3 = M 100 3) := (congrFun (fM200 100 (by first | decide | omega | (dsimp only; omega))) 3).trans q100_3
        have q100_49_M20 : id (M20 100 49 = M 100 49) := (congrFun (fM200 100 (by first | decide | omega | (dsimp only; omega))) 49).trans q100_49
        have q100_50_M20 : id (M20 100 50 = M 100 50) := (congrFun (fM200 100 (by first | decide | omega | (dsimp only; omega))) 50).trans q100_50
        have q100_51_M20 : id (M20 100 51 = M 100 51) := (congrFun (fM200 100 (by first | decide | omega | (dsimp only; omega))) 51).trans q100_51
        have q100_52_M20 : id (M20 100 52 = M 100 52) := (congrFun (fM200 100 (by first | decide | omega | (dsimp only; omega))) 52).trans q100_52
        have q103_0_M20 : id (M20 103 0 = M 103 0) := (congrFun (fM200 103 (by first | decide | omega | (dsimp only; omega))) 0).trans q103_0
        have q103_1_M20 : id (M20 103 1 = M 103 1) := (congrFun (fM200 103 (by first | decide | omega | (dsimp only; omega))) 1).trans q103_1
        have wM20_97_12 : M20 97 12 = M1 97 12 := eM20_97_12
        have wM20_97_18 : M20 97 18 = M1 97 18 := eM20_97_18
        have wM20_97_19 : M20 97 19 = M1 97 19 := eM20_97_19
        have wM20_97_21 : M20 97 21 = M1 97 21 := eM20_97_21
        have c1M20 : M20 101 = M 101 := (fM200 101 (by decide)).trans c1
        obtain ⟨aM20p, kM20p⟩ := pM20
        have tkM20 : TK M20 := kM20p
        clear kM20p
        have tbM20 := tkM20.b
        have cbM20 : CB M20 := CB.nx cb1 (fM200 107 (by decide)) (fM200 108 (by decide)) (fM200 109 (by decide)) (by omega) (by omega) (by omega)
        refine g_aload_n (pc' := 54) 0 dX10_evening_53 rfl rfl ?_
        refine g_callVv (pc' := 57) (As := []) (b := 97) (S := []) dX10_evening_54 rfl m_X10_325 w_X10_readClause (c_X10_readClause X M20 iM20 tkM20 (by omega) (by omega) (by omega) (cbM20 (by omega))) rfl ⟨_, _, _, rfl, rfl, rfl⟩ (by decide) (by decide) rfl (Nat.le_of_ble_eq_true rfl) (fun M22 q21 => ?_)
        obtain ⟨iM22, fM220, eM22_97_12, pM22⟩ := q21
        have fM22 : Fr (fun c => 97 ≤ c ∧ c ≤ 116) M M22 := Fr.tr fM20 fM220 fi_43
        have q99_0_M22 : (M22 99 0 = M 99 0) := (congrFun (fM220 99 (by first | decide | omega | (dsimp only; omega))) 0).trans q99_0_M20
        have q99_1_M22 : (M22 99 1 = M 99 1) := (congrFun (fM220 99 (by first | decide | omega | (dsimp only; omega))) 1).trans q99_1_M20
        have q99_2_M22 : (M22 99 2 = M 99 2) := (congrFun (fM220 99 (by first | decide | omega | (dsimp only; omega))) 2).trans q99_2_M20
        have q99_3_M22 : (M22 99 3 = M 99 3) := (congrFun (fM220 99 (by first | decide | omega | (dsimp only; omega))) 3).trans q99_3_M20
        have q100_0_M22 : id (M22 100 0 = M 100 0) := (congrFun (fM220 100 (by first | decide | omega | (dsimp only; omega))) 0).trans q100_0_M20
        have q100_1_M22 : id (M22 100 1 = M 100 1) := (congrFun (fM220 100 (by first | decide | omega | (dsimp only; omega))) 1).trans q100_1_M20
        have q100_2_M22 : id (M22 100 2 = M 100 2) := (congrFun (fM220 100 (by first | decide | omega | (dsimp only; omega))) 2).trans q100_2_M20
        have q100_3_M22 : id (M22 100 3 = M 100 3) := (congrFun (fM220 100 (by first | decide | omega | (dsimp only; omega))) 3).trans q100_3_M20
        have q100_49_M22 : id (M22 100 49 = M 100 49) := (congrFun (fM220 100 (by first | decide | omega | (dsimp only; omega))) 49).trans q100_49_M20
        have q100_50_M22 : id (M22 100 50 = M 100 50) := (congrFun (fM220 100 (by first | decide | omega | (dsimp only; omega))) 50).trans q100_50_M20
        have q100_51_M22 : id (M22 100 51 = M 100 51) := (congrFun (fM220 100 (by first | decide | omega | (dsimp only; omega))) 51).trans q100_51_M20
        have q100_52_M22 : id (M22 100 52 = M 100 52) := (congrFun (fM220 100 (by first | decide | omega | (dsimp only; omega))) 52).trans q100_52_M20
        have q103_0_M22 : id (M22 103 0 = M 103 0) := (congrFun (fM220 103 (by first | decide | omega | (dsimp only; omega))) 0).trans q103_0_M20
        have q103_1_M22 : id (M22 103 1 = M 103 1) := (congrFun (fM220 103 (by first | decide | omega | (dsimp only; omega))) 1).trans q103_1_M20
        have wM22_97_12 : M22 97 12 = M20 97 12 := eM22_97_12
        have c1M22 : M22 101 = M 101 := (fM220 101 (by decide)).trans c1M20
        obtain ⟨tkM22, naM22, nbM22, ncM22, cbM22⟩ := pM22
        have tbM22 := tkM22.b
        refine g_goto (tgt := 33) dX10_evening_57 rfl ?_
        refine g_sub [0] rfl ?_
        exact ih _ (by omega) M22 iM22 fM22 q99_0_M22 q99_1_M22 q99_2_M22 q99_3_M22 q100_0_M22 q100_1_M22 q100_2_M22 q100_3_M22 q100_49_M22 q100_50_M22 q100_51_M22 q100_52_M22 q103_0_M22 q103_1_M22 tkM22 (by omega) cbM22 (by omega) c1M22 rfl
set_option maxHeartbeats 4000000 in
set_option maxRecDepth 100000 in
theorem c_X10_evening (X : Cx) (M : Mm) (hi : IM M) : Con X 12 yX10_evening cX10_evening 4 (some .int) [vr X 97] M (Qi (fun r M1 => IM M1 ∧ Fr (fun c => 97 ≤ c ∧ c ≤ 116) M M1 ∧ M1 99 0 = M 99 0 ∧ M1 99 1 = M 99 1 ∧ M1 99 2 = M 99 2 ∧ M1 99 3 = M 99 3 ∧ M1 100 0 = M 100 0 ∧ M1 100 1 = M 100 1 ∧ M1 100 2 = M 100 2 ∧ M1 100 3 = M 100 3 ∧ M1 100 49 = M 100 49 ∧ M1 100 50 = M 100 50 ∧ M1 100 51 = M 100 51 ∧ M1 100 52 = M 100 52 ∧ M1 103 0 = M 103 0 ∧ M1 103 1 = M 103 1 ∧ (inI r ∧ M1 97 12 = 0))) := by
  refine Con.ofG rfl (Nat.le_of_ble_eq_true rfl) ?_
  show G X 12 RX10 cX10_evening 4 (some .int) (Qi (fun r M1 => IM M1 ∧ Fr (fun c => 97 ≤ c ∧ c ≤ 116) M M1 ∧ M1 99 0 = M 99 0 ∧ M1 99 1 = M 99 1 ∧ M1 99 2 = M 99 2 ∧ M1 99 3 = M 99 3 ∧ M1 100 0 = M 100 0 ∧ M1 100 1 = M 100 1 ∧ M1 100 2 = M 100 2 ∧ M1 100 3 = M 100 3 ∧ M1 100 49 = M 100 49 ∧ M1 100 50 = M 100 50 ∧ M1 100 51 = M 100 51 ∧ M1 100 52 = M 100 52 ∧ M1 103 0 = M 103 0 ∧ M1 103 1 = M 103 1 ∧ (inI r ∧ M1 97 12 = 0))) 0 [(0, vr X 97)] [] M
  have p0 := hi.1.1
  have p1 := hi.1.2.1
  have p2 := hi.1.2.2.1
  have p3 := hi.1.2.2.2.1
  have p12 := hi.2.2.2.1
  refine g_aload_n (pc' := 1) 0 dX10_evening_0 rfl rfl ?_
  refine g_iconst (pc' := 2) dX10_evening_1 rfl ?_
  refine g_putI (pc' := 5) dX10_evening_2 rfl p_X10_77 rfl rfl (by decide) (fun M2 hM2 => ?_)
  have iM2 : IM M2 := IM.wr hi hM2 (by unfold okv; first | decide | omega)
  have fM2 : Fr (fun c => 97 ≤ c ∧ c ≤ 116) M M2 := Fr.wr Fr.rf hM2 (by first | decide | omega | (dsimp only; omega))
  have q99_0_M2 : (M2 99 0 = M 99 0) := (show M2 99 0 = M 99 0 by rw [hM2]; exact mu_ne _ _ (by first | decide | omega))
  have q99_1_M2 : (M2 99 1 = M 99 1) := (show M2 99 1 = M 99 1 by rw [hM2]; exact mu_ne _ _ (by first | decide | omega))
  have q99_2_M2 : (M2 99 2 = M 99 2) := (show M2 99 2 = M 99 2 by rw [hM2]; exact mu_ne _ _ (by first | decide | omega))
  have q99_3_M2 : (M2 99 3 = M 99 3) := (show M2 99 3 = M 99 3 by rw [hM2]; exact mu_ne _ _ (by first | decide | omega))
  have q100_0_M2 : id (M2 100 0 = M 100 0) := (show M2 100 0 = M 100 0 by rw [hM2]; exact mu_ne _ _ (by first | decide | omega))
  have q100_1_M2 : id (M2 100 1 = M 100 1) := (show M2 100 1 = M 100 1 by rw [hM2]; exact mu_ne _ _ (by first | decide | omega))
  have q100_2_M2 : id (M2 100 2 = M 100 2) := (show M2 100 2 = M 100 2 by rw [hM2]; exact mu_ne _ _ (by first | decide | omega))
  have q100_3_M2 : id (M2 100 3 = M 100 3) := (show M2 100 3 = M 100 3 by rw [hM2]; exact mu_ne _ _ (by first | decide | omega))
  have q100_49_M2 : id (M2 100 49 = M 100 49) := (show M2 100 49 = M 100 49 by rw [hM2]; exact mu_ne _ _ (by first | decide | omega))
  have q100_50_M2 : id (M2 100 50 = M 100 50) := (show M2 100 50 = M 100 50 by rw [hM2]; exact mu_ne _ _ (by first | decide | omega))
  have q100_51_M2 : id (M2 100 51 = M 100 51) := (show M2 100 51 = M 100 51 by rw [hM2]; exact mu_ne _ _ (by first | decide | omega))
  have q100_52_M2 : id (M2 100 52 = M 100 52) := (show M2 100 52 = M 100 52 by rw [hM2]; exact mu_ne _ _ (by first | decide | omega))
  have q103_0_M2 : id (M2 103 0 = M 103 0) := (show M2 103 0 = M 103 0 by rw [hM2]; exact mu_ne _ _ (by first | decide | omega))
  have q103_1_M2 : id (M2 103 1 = M 103 1) := (show M2 103 1 = M 103 1 by rw [hM2]; exact mu_ne _ _ (by first | decide | omega))
  have q97_12_M2 : (M2 97 12 = M 97 12) := (show M2 97 12 = M 97 12 by rw [hM2]; exact mu_ne _ _ (by first | decide | omega))
  have wM2_97_12 : M2 97 12 = M 97 12 := by rw [hM2]; exact mu_ne _ _ (by first | decide | omega)
  have wM2_97_13 : M2 97 13 = M 97 13 := by rw [hM2]; exact mu_ne _ _ (by first | decide | omega)
  have wM2_97_14 : M2 97 14 = M 97 14 := by rw [hM2]; exact mu_ne _ _ (by first | decide | omega)
  have wM2_97_15 : M2 97 15 = M 97 15 := by rw [hM2]; exact mu_ne _ _ (by first | decide | omega)
  have wM2_97_16 : M2 97 16 = M 97 16 := by rw [hM2]; exact mu_ne _ _ (by first | decide | omega)
  have wM2_97_18 : M2 97 18 = M 97 18 := by rw [hM2]; exact mu_ne _ _ (by first | decide | omega)
  have wM2_97_19 : M2 97 19 = M 97 19 := by rw [hM2]; exact mu_ne _ _ (by first | decide | omega)
  have wM2_97_21 : M2 97 21 = M 97 21 := by rw [hM2]; exact mu_ne _ _ (by first | decide | omega)
  have wM2_97_32 : M2 97 32 = M 97 32 := by rw [hM2]; exact mu_ne _ _ (by first | decide | omega)
  have xM2_97_0 : M2 97 0 = 0 := by rw [hM2]; exact mu_at _ _ _ _
  have c1M2 : M2 101 = M 101 := (show M2 101 = M 101 by rw [hM2, mu_cell _ _ (by decide)])
  refine g_aload_n (pc' := 6) 0 dX10_evening_5 rfl rfl ?_
  refine g_callVv (pc' := 9) (As := []) (b := 97) (S := []) dX10_evening_6 rfl m_X10_322 w_X10_begin (c_X10_begin X M2 iM2) rfl ⟨_, _, _, rfl, rfl, rfl⟩ (by decide) (by decide) rfl (Nat.le_of_ble_eq_true rfl) (fun M4 q3 => ?_)
  obtain ⟨iM4, fM40, eM4_97_12, eM4_97_19, eM4_97_21, eM4_97_24, eM4_97_27, eM4_97_28, pM4⟩ := q3
  have fM4 : Fr (fun c => 97 ≤ c ∧ c ≤ 116) M M4 := Fr.tr fM2 fM40 fi_26
  have q99_0_M4 : (M4 99 0 = M 99 0) := (congrFun (fM40 99 (by first | decide | omega | (dsimp only; omega))) 0).trans q99_0_M2
  have q99_1_M4 : (M4 99 1 = M 99 1) := (congrFun (fM40 99 (by first | decide | omega | (dsimp only; omega))) 1).trans q99_1_M2
  have q99_2_M4 : (M4 99 2 = M 99 2) := (congrFun (fM40 99 (by first | decide | omega | (dsimp only; omega))) 2).trans q99_2_M2
  have q99_3_M4 : (M4 99 3 = M 99 3) := (congrFun (fM40 99 (by first | decide | omega | (dsimp only; omega))) 3).trans q99_3_M2
  have q100_0_M4 : id (M4 100 0 = M 100 0) := (congrFun (fM40 100 (by first | decide | omega | (dsimp only; omega))) 0).trans q100_0_M2
  have q100_1_M4 : id (M4 100 1 = M 100 1) := (congrFun (fM40 100 (by first | decide | omega | (dsimp only; omega))) 1).trans q100_1_M2
  have q100_2_M4 : id (M4 100 2 = M 100 2) := (congrFun (fM40 100 (by first | decide | omega | (dsimp only; omega))) 2).trans q100_2_M2
  have q100_3_M4 : id (M4 100 3 = M 100 3) := (congrFun (fM40 100 (by first | decide | omega | (dsimp only; omega))) 3).trans q100_3_M2
  have q100_49_M4 : id (M4 100 49 = M 100 49) := (congrFun (fM40 100 (by first | decide | omega | (dsimp only; omega))) 49).trans q100_49_M2
  have q100_50_M4 : id (M4 100 50 = M 100 50) := (congrFun (fM40 100 (by first | decide | omega | (dsimp only; omega))) 50).trans q100_50_M2
  have q100_51_M4 : id (M4 100 51 = M 100 51) := (congrFun (fM40 100 (by first | decide | omega | (dsimp only; omega))) 51).trans q100_51_M2
  have q100_52_M4 : id (M4 100 52 = M 100 52) := (congrFun (fM40 100 (by first | decide | omega | (dsimp only; omega))) 52).trans q100_52_M2
  have q103_0_M4 : id (M4 103 0 = M 103 0) := (congrFun (fM40 103 (by first | decide | omega | (dsimp only; omega))) 0).trans q103_0_M2
  have q103_1_M4 : id (M4 103 1 = M 103 1) := (congrFun (fM40 103 (by first | decide | omega | (dsimp only; omega))) 1).trans q103_1_M2
  have q97_12_M4 : (M4 97 12 = M 97 12) := eM4_97_12.trans q97_12_M2
  have wM4_97_12 : M4 97 12 = M2 97 12 := eM4_97_12
  have wM4_97_19 : M4 97 19 = M2 97 19 := eM4_97_19
  have wM4_97_21 : M4 97 21 = M2 97 21 := eM4_97_21
  have c1M4 : M4 101 = M 101 := (fM40 101 (by decide)).trans c1M2
  obtain ⟨bdM4, kM4p⟩ := pM4
  have tkM4 : TK M4 := kM4p
  clear kM4p
  have tbM4 := tkM4.b
  refine g_aload_n (pc' := 10) 0 dX10_evening_9 rfl rfl ?_
  refine g_iconst (pc' := 11) dX10_evening_10 rfl ?_
  refine g_putI (pc' := 14) dX10_evening_11 rfl p_X10_284 rfl rfl (by decide) (fun M5 hM5 => ?_)
  have iM5 : IM M5 := IM.wr iM4 hM5 (by unfold okv; first | decide | omega)
  have fM5 : Fr (fun c => 97 ≤ c ∧ c ≤ 116) M M5 := Fr.wr fM4 hM5 (by first | decide | omega | (dsimp only; omega))
  have q99_0_M5 : (M5 99 0 = M 99 0) := (show M5 99 0 = M4 99 0 by rw [hM5]; exact mu_ne _ _ (by first | decide | omega)).trans q99_0_M4
  have q99_1_M5 : (M5 99 1 = M 99 1) := (show M5 99 1 = M4 99 1 by rw [hM5]; exact mu_ne _ _ (by first | decide | omega)).trans q99_1_M4
  have q99_2_M5 : (M5 99 2 = M 99 2) := (show M5 99 2 = M4 99 2 by rw [hM5]; exact mu_ne _ _ (by first | decide | omega)).trans q99_2_M4
  have q99_3_M5 : (M5 99 3 = M 99 3) := (show M5 99 3 = M4 99 3 by rw [hM5]; exact mu_ne _ _ (by first | decide | omega)).trans q99_3_M4
  have q100_0_M5 : id (M5 100 0 = M 100 0) := (show M5 100 0 = M4 100 0 by rw [hM5]; exact mu_ne _ _ (by first | decide | omega)).trans q100_0_M4
  have q100_1_M5 : id (M5 100 1 = M 100 1) := (show M5 100 1 = M4 100 1 by rw [hM5]; exact mu_ne _ _ (by first | decide | omega)).trans q100_1_M4
  have q100_2_M5 : id (M5 100 2 = M 100 2) := (show M5 100 2 = M4 100 2 by rw [hM5]; exact mu_ne _ _ (by first | decide | omega)).trans q100_2_M4
  have q100_3_M5 : id (M5 100 3 = M 100 3) := (show M5 100 3 = M4 100 3 by rw [hM5]; exact mu_ne _ _ (by first | decide | omega)).trans q100_3_M4
  have q100_49_M5 : id (M5 100 49 = M 100 49) := (show M5 100 49 = M4 100 49 by rw [hM5]; exact mu_ne _ _ (by first | decide | omega)).trans q100_49_M4
  have q100_50_M5 : id (M5 100 50 = M 100 50) := (show M5 100 50 = M4 100 50 by rw [hM5]; exact mu_ne _ _ (by first | decide | omega)).trans q100_50_M4
  have q100_51_M5 : id (M5 100 51 = M 100 51) := (show M5 100 51 = M4 100 51 by rw [hM5]; exact mu_ne _ _ (by first | decide | omega)).trans q100_51_M4
  have q100_52_M5 : id (M5 100 52 = M 100 52) := (show M5 100 52 = M4 100 52 by rw [hM5]; exact mu_ne _ _ (by first | decide | omega)).trans q100_52_M4
  have q103_0_M5 : id (M5 103 0 = M 103 0) := (show M5 103 0 = M4 103 0 by rw [hM5]; exact mu_ne _ _ (by first | decide | omega)).trans q103_0_M4
  have q103_1_M5 : id (M5 103 1 = M 103 1) := (show M5 103 1 = M4 103 1 by rw [hM5]; exact mu_ne _ _ (by first | decide | omega)).trans q103_1_M4
  have q97_12_M5 : (M5 97 12 = M 97 12) := (show M5 97 12 = M4 97 12 by rw [hM5]; exact mu_ne _ _ (by first | decide | omega)).trans q97_12_M4
  have wM5_97_12 : M5 97 12 = M4 97 12 := by rw [hM5]; exact mu_ne _ _ (by first | decide | omega)
  have wM5_97_13 : M5 97 13 = M4 97 13 := by rw [hM5]; exact mu_ne _ _ (by first | decide | omega)
  have wM5_97_14 : M5 97 14 = M4 97 14 := by rw [hM5]; exact mu_ne _ _ (by first | decide | omega)
  have wM5_97_15 : M5 97 15 = M4 97 15 := by rw [hM5]; exact mu_ne _ _ (by first | decide | omega)
  have wM5_97_16 : M5 97 16 = M4 97 16 := by rw [hM5]; exact mu_ne _ _ (by first | decide | omega)
  have wM5_97_18 : M5 97 18 = M4 97 18 := by rw [hM5]; exact mu_ne _ _ (by first | decide | omega)
  have wM5_97_21 : M5 97 21 = M4 97 21 := by rw [hM5]; exact mu_ne _ _ (by first | decide | omega)
  have wM5_97_32 : M5 97 32 = M4 97 32 := by rw [hM5]; exact mu_ne _ _ (by first | decide | omega)
  have xM5_97_19 : M5 97 19 = 0 := by rw [hM5]; exact mu_at _ _ _ _
  have c1M5 : M5 101 = M 101 := (show M5 101 = M4 101 by rw [hM5, mu_cell _ _ (by decide)]).trans c1M4
  have tkM5 : TK M5 := TK.eq tkM4 (show M5 97 12 = M4 97 12 by rw [hM5]; exact mu_ne _ _ (by first | decide | omega)) (show M5 97 13 = M4 97 13 by rw [hM5]; exact mu_ne _ _ (by first | decide | omega)) (show M5 97 14 = M4 97 14 by rw [hM5]; exact mu_ne _ _ (by first | decide | omega)) (show M5 97 15 = M4 97 15 by rw [hM5]; exact mu_ne _ _ (by first | decide | omega)) (show M5 97 16 = M4 97 16 by rw [hM5]; exact mu_ne _ _ (by first | decide | omega))
  refine g_aload_n (pc' := 15) 0 dX10_evening_14 rfl rfl ?_
  refine g_iconst (pc' := 16) dX10_evening_15 rfl ?_
  refine g_putI (pc' := 19) dX10_evening_16 rfl p_X10_191 rfl rfl (by decide) (fun M6 hM6 => ?_)
  have iM6 : IM M6 := IM.wr iM5 hM6 (by unfold okv; first | decide | omega)
  have fM6 : Fr (fun c => 97 ≤ c ∧ c ≤ 116) M M6 := Fr.wr fM5 hM6 (by first | decide | omega | (dsimp only; omega))
  have q99_0_M6 : (M6 99 0 = M 99 0) := (show M6 99 0 = M5 99 0 by rw [hM6]; exact mu_ne _ _ (by first | decide | omega)).trans q99_0_M5
  have q99_1_M6 : (M6 99 1 = M 99 1) := (show M6 99 1 = M5 99 1 by rw [hM6]; exact mu_ne _ _ (by first | decide | omega)).trans q99_1_M5
  have q99_2_M6 : (M6 99 2 = M 99 2) := (show M6 99 2 = M5 99 2 by rw [hM6]; exact mu_ne _ _ (by first | decide | omega)).trans q99_2_M5
  have q99_3_M6 : (M6 99 3 = M 99 3) := (show M6 99 3 = M5 99 3 by rw [hM6]; exact mu_ne _ _ (by first | decide | omega)).trans q99_3_M5
  have q100_0_M6 : id (M6 100 0 = M 100 0) := (show M6 100 0 = M5 100 0 by rw [hM6]; exact mu_ne _ _ (by first | decide | omega)).trans q100_0_M5
  have q100_1_M6 : id (M6 100 1 = M 100 1) := (show M6 100 1 = M5 100 1 by rw [hM6]; exact mu_ne _ _ (by first | decide | omega)).trans q100_1_M5
  have q100_2_M6 : id (M6 100 2 = M 100 2) := (show M6 100 2 = M5 100 2 by rw [hM6]; exact mu_ne _ _ (by first | decide | omega)).trans q100_2_M5
  have q100_3_M6 : id (M6 100 3 = M 100 3) := (show M6 100 3 = M5 100 3 by rw [hM6]; exact mu_ne _ _ (by first | decide | omega)).trans q100_3_M5
  have q100_49_M6 : id (M6 100 49 = M 100 49) := (show M6 100 49 = M5 100 49 by rw [hM6]; exact mu_ne _ _ (by first | decide | omega)).trans q100_49_M5
  have q100_50_M6 : id (M6 100 50 = M 100 50) := (show M6 100 50 = M5 100 50 by rw [hM6]; exact mu_ne _ _ (by first | decide | omega)).trans q100_50_M5
  have q100_51_M6 : id (M6 100 51 = M 100 51) := (show M6 100 51 = M5 100 51 by rw [hM6]; exact mu_ne _ _ (by first | decide | omega)).trans q100_51_M5
  have q100_52_M6 : id (M6 100 52 = M 100 52) := (show M6 100 52 = M5 100 52 by rw [hM6]; exact mu_ne _ _ (by first | decide | omega)).trans q100_52_M5
  have q103_0_M6 : id (M6 103 0 = M 103 0) := (show M6 103 0 = M5 103 0 by rw [hM6]; exact mu_ne _ _ (by first | decide | omega)).trans q103_0_M5
  have q103_1_M6 : id (M6 103 1 = M 103 1) := (show M6 103 1 = M5 103 1 by rw [hM6]; exact mu_ne _ _ (by first | decide | omega)).trans q103_1_M5
  have q97_12_M6 : (M6 97 12 = M 97 12) := (show M6 97 12 = M5 97 12 by rw [hM6]; exact mu_ne _ _ (by first | decide | omega)).trans q97_12_M5
  have wM6_97_12 : M6 97 12 = M5 97 12 := by rw [hM6]; exact mu_ne _ _ (by first | decide | omega)
  have wM6_97_13 : M6 97 13 = M5 97 13 := by rw [hM6]; exact mu_ne _ _ (by first | decide | omega)
  have wM6_97_14 : M6 97 14 = M5 97 14 := by rw [hM6]; exact mu_ne _ _ (by first | decide | omega)
  have wM6_97_15 : M6 97 15 = M5 97 15 := by rw [hM6]; exact mu_ne _ _ (by first | decide | omega)
  have wM6_97_16 : M6 97 16 = M5 97 16 := by rw [hM6]; exact mu_ne _ _ (by first | decide | omega)
  have wM6_97_18 : M6 97 18 = M5 97 18 := by rw [hM6]; exact mu_ne _ _ (by first | decide | omega)
  have wM6_97_19 : M6 97 19 = M5 97 19 := by rw [hM6]; exact mu_ne _ _ (by first | decide | omega)
  have wM6_97_32 : M6 97 32 = M5 97 32 := by rw [hM6]; exact mu_ne _ _ (by first | decide | omega)
  have xM6_97_19 : M6 97 19 = 0 := (show M6 97 19 = M5 97 19 by rw [hM6]; exact mu_ne _ _ (by first | decide | omega)).trans xM5_97_19
  have xM6_97_21 : M6 97 21 = 0 := by rw [hM6]; exact mu_at _ _ _ _
  have c1M6 : M6 101 = M 101 := (show M6 101 = M5 101 by rw [hM6, mu_cell _ _ (by decide)]).trans c1M5
  have tkM6 : TK M6 := TK.eq tkM5 (show M6 97 12 = M5 97 12 by rw [hM6]; exact mu_ne _ _ (by first | decide | omega)) (show M6 97 13 = M5 97 13 by rw [hM6]; exact mu_ne _ _ (by first | decide | omega)) (show M6 97 14 = M5 97 14 by rw [hM6]; exact mu_ne _ _ (by first | decide | omega)) (show M6 97 15 = M5 97 15 by rw [hM6]; exact mu_ne _ _ (by first | decide | omega)) (show M6 97 16 = M5 97 16 by rw [hM6]; exact mu_ne _ _ (by first | decide | omega))
  refine g_aload_n (pc' := 20) 0 dX10_evening_19 rfl rfl ?_
  refine g_iconst (pc' := 21) dX10_evening_20 rfl ?_
  refine g_putI (pc' := 24) dX10_evening_21 rfl p_X10_218 rfl rfl (by decide) (fun M7 hM7 => ?_)
  have iM7 : IM M7 := IM.wr iM6 hM7 (by unfold okv; first | decide | omega)
  have fM7 : Fr (fun c => 97 ≤ c ∧ c ≤ 116) M M7 := Fr.wr fM6 hM7 (by first | decide | omega | (dsimp only; omega))
  have q99_0_M7 : (M7 99 0 = M 99 0) := (show M7 99 0 = M6 99 0 by rw [hM7]; exact mu_ne _ _ (by first | decide | omega)).trans q99_0_M6
  have q99_1_M7 : (M7 99 1 = M 99 1) := (show M7 99 1 = M6 99 1 by rw [hM7]; exact mu_ne _ _ (by first | decide | omega)).trans q99_1_M6
  have q99_2_M7 : (M7 99 2 = M 99 2) := (show M7 99 2 = M6 99 2 by rw [hM7]; exact mu_ne _ _ (by first | decide | omega)).trans q99_2_M6
  have q99_3_M7 : (M7 99 3 = M 99 3) := (show M7 99 3 = M6 99 3 by rw [hM7]; exact mu_ne _ _ (by first | decide | omega)).trans q99_3_M6
  have q100_0_M7 : id (M7 100 0 = M 100 0) := (show M7 100 0 = M6 100 0 by rw [hM7]; exact mu_ne _ _ (by first | decide | omega)).trans q100_0_M6
  have q100_1_M7 : id (M7 100 1 = M 100 1) := (show M7 100 1 = M6 100 1 by rw [hM7]; exact mu_ne _ _ (by first | decide | omega)).trans q100_1_M6
  have q100_2_M7 : id (M7 100 2 = M 100 2) := (show M7 100 2 = M6 100 2 by rw [hM7]; exact mu_ne _ _ (by first | decide | omega)).trans q100_2_M6
  have q100_3_M7 : id (M7 100 3 = M 100 3) := (show M7 100 3 = M6 100 3 by rw [hM7]; exact mu_ne _ _ (by first | decide | omega)).trans q100_3_M6
  have q100_49_M7 : id (M7 100 49 = M 100 49) := (show M7 100 49 = M6 100 49 by rw [hM7]; exact mu_ne _ _ (by first | decide | omega)).trans q100_49_M6
  have q100_50_M7 : id (M7 100 50 = M 100 50) := (show M7 100 50 = M6 100 50 by rw [hM7]; exact mu_ne _ _ (by first | decide | omega)).trans q100_50_M6
  have q100_51_M7 : id (M7 100 51 = M 100 51) := (show M7 100 51 = M6 100 51 by rw [hM7]; exact mu_ne _ _ (by first | decide | omega)).trans q100_51_M6
  have q100_52_M7 : id (M7 100 52 = M 100 52) := (show M7 100 52 = M6 100 52 by rw [hM7]; exact mu_ne _ _ (by first | decide | omega)).trans q100_52_M6
  have q103_0_M7 : id (M7 103 0 = M 103 0) := (show M7 103 0 = M6 103 0 by rw [hM7]; exact mu_ne _ _ (by first | decide | omega)).trans q103_0_M6
  have q103_1_M7 : id (M7 103 1 = M 103 1) := (show M7 103 1 = M6 103 1 by rw [hM7]; exact mu_ne _ _ (by first | decide | omega)).trans q103_1_M6
  have q97_12_M7 : (M7 97 12 = M 97 12) := (show M7 97 12 = M6 97 12 by rw [hM7]; exact mu_ne _ _ (by first | decide | omega)).trans q97_12_M6
  have wM7_97_12 : M7 97 12 = M6 97 12 := by rw [hM7]; exact mu_ne _ _ (by first | decide | omega)
  have wM7_97_13 : M7 97 13 = M6 97 13 := by rw [hM7]; exact mu_ne _ _ (by first | decide | omega)
  have wM7_97_14 : M7 97 14 = M6 97 14 := by rw [hM7]; exact mu_ne _ _ (by first | decide | omega)
  have wM7_97_15 : M7 97 15 = M6 97 15 := by rw [hM7]; exact mu_ne _ _ (by first | decide | omega)
  have wM7_97_16 : M7 97 16 = M6 97 16 := by rw [hM7]; exact mu_ne _ _ (by first | decide | omega)
  have wM7_97_18 : M7 97 18 = M6 97 18 := by rw [hM7]; exact mu_ne _ _ (by first | decide | omega)
  have wM7_97_19 : M7 97 19 = M6 97 19 := by rw [hM7]; exact mu_ne _ _ (by first | decide | omega)
  have wM7_97_21 : M7 97 21 = M6 97 21 := by rw [hM7]; exact mu_ne _ _ (by first | decide | omega)
  have wM7_97_32 : M7 97 32 = M6 97 32 := by rw [hM7]; exact mu_ne _ _ (by first | decide | omega)
  have xM7_97_19 : M7 97 19 = 0 := (show M7 97 19 = M6 97 19 by rw [hM7]; exact mu_ne _ _ (by first | decide | omega)).trans xM6_97_19
  have xM7_97_21 : M7 97 21 = 0 := (show M7 97 21 = M6 97 21 by rw [hM7]; exact mu_ne _ _ (by first | decide | omega)).trans xM6_97_21
  have xM7_97_24 : M7 97 24 = 0 := by rw [hM7]; exact mu_at _ _ _ _
  have c1M7 : M7 101 = M 101 := (show M7 101 = M6 101 by rw [hM7, mu_cell _ _ (by decide)]).trans c1M6
  have tkM7 : TK M7 := TK.eq tkM6 (show M7 97 12 = M6 97 12 by rw [hM7]; exact mu_ne _ _ (by first | decide | omega)) (show M7 97 13 = M6 97 13 by rw [hM7]; exact mu_ne _ _ (by first | decide | omega)) (show M7 97 14 = M6 97 14 by rw [hM7]; exact mu_ne _ _ (by first | decide | omega)) (show M7 97 15 = M6 97 15 by rw [hM7]; exact mu_ne _ _ (by first | decide | omega)) (show M7 97 16 = M6 97 16 by rw [hM7]; exact mu_ne _ _ (by first | decide | omega))
  refine g_aload_n (pc' := 25) 0 dX10_evening_24 rfl rfl ?_
  refine g_iconst (pc' := 26) dX10_evening_25 rfl ?_
  refine g_putI (pc' := 29) dX10_evening_26 rfl p_X10_61 rfl rfl (by decide) (fun M8 hM8 => ?_)
  have iM8 : IM M8 := IM.wr iM7 hM8 (by unfold okv; first | decide | omega)
  have fM8 : Fr (fun c => 97 ≤ c ∧ c ≤ 116) M M8 := Fr.wr fM7 hM8 (by first | decide | omega | (dsimp only; omega))
  have q99_0_M8 : (M8 99 0 = M 99 0) := (show M8 99 0 = M7 99 0 by rw [hM8]; exact mu_ne _ _ (by first | decide | omega)).trans q99_0_M7
  have q99_1_M8 : (M8 99 1 = M 99 1) := (show M8 99 1 = M7 99 1 by rw [hM8]; exact mu_ne _ _ (by first | decide | omega)).trans q99_1_M7
  have q99_2_M8 : (M8 99 2 = M 99 2) := (show M8 99 2 = M7 99 2 by rw [hM8]; exact mu_ne _ _ (by first | decide | omega)).trans q99_2_M7
  have q99_3_M8 : (M8 99 3 = M 99 3) := (show M8 99 3 = M7 99 3 by rw [hM8]; exact mu_ne _ _ (by first | decide | omega)).trans q99_3_M7
  have q100_0_M8 : id (M8 100 0 = M 100 0) := (show M8 100 0 = M7 100 0 by rw [hM8]; exact mu_ne _ _ (by first | decide | omega)).trans q100_0_M7
  have q100_1_M8 : id (M8 100 1 = M 100 1) := (show M8 100 1 = M7 100 1 by rw [hM8]; exact mu_ne _ _ (by first | decide | omega)).trans q100_1_M7
  have q100_2_M8 : id (M8 100 2 = M 100 2) := (show M8 100 2 = M7 100 2 by rw [hM8]; exact mu_ne _ _ (by first | decide | omega)).trans q100_2_M7
  have q100_3_M8 : id (M8 100 3 = M 100 3) := (show M8 100 3 = M7 100 3 by rw [hM8]; exact mu_ne _ _ (by first | decide | omega)).trans q100_3_M7
  have q100_49_M8 : id (M8 100 49 = M 100 49) := (show M8 100 49 = M7 100 49 by rw [hM8]; exact mu_ne _ _ (by first | decide | omega)).trans q100_49_M7
  have q100_50_M8 : id (M8 100 50 = M 100 50) := (show M8 100 50 = M7 100 50 by rw [hM8]; exact mu_ne _ _ (by first | decide | omega)).trans q100_50_M7
  have q100_51_M8 : id (M8 100 51 = M 100 51) := (show M8 100 51 = M7 100 51 by rw [hM8]; exact mu_ne _ _ (by first | decide | omega)).trans q100_51_M7
  have q100_52_M8 : id (M8 100 52 = M 100 52) := (show M8 100 52 = M7 100 52 by rw [hM8]; exact mu_ne _ _ (by first | decide | omega)).trans q100_52_M7
  have q103_0_M8 : id (M8 103 0 = M 103 0) := (show M8 103 0 = M7 103 0 by rw [hM8]; exact mu_ne _ _ (by first | decide | omega)).trans q103_0_M7
  have q103_1_M8 : id (M8 103 1 = M 103 1) := (show M8 103 1 = M7 103 1 by rw [hM8]; exact mu_ne _ _ (by first | decide | omega)).trans q103_1_M7
  have q97_12_M8 : (M8 97 12 = M 97 12) := (show M8 97 12 = M7 97 12 by rw [hM8]; exact mu_ne _ _ (by first | decide | omega)).trans q97_12_M7
  have wM8_97_12 : M8 97 12 = M7 97 12 := by rw [hM8]; exact mu_ne _ _ (by first | decide | omega)
  have wM8_97_13 : M8 97 13 = M7 97 13 := by rw [hM8]; exact mu_ne _ _ (by first | decide | omega)
  have wM8_97_14 : M8 97 14 = M7 97 14 := by rw [hM8]; exact mu_ne _ _ (by first | decide | omega)
  have wM8_97_15 : M8 97 15 = M7 97 15 := by rw [hM8]; exact mu_ne _ _ (by first | decide | omega)
  have wM8_97_16 : M8 97 16 = M7 97 16 := by rw [hM8]; exact mu_ne _ _ (by first | decide | omega)
  have wM8_97_18 : M8 97 18 = M7 97 18 := by rw [hM8]; exact mu_ne _ _ (by first | decide | omega)
  have wM8_97_19 : M8 97 19 = M7 97 19 := by rw [hM8]; exact mu_ne _ _ (by first | decide | omega)
  have wM8_97_21 : M8 97 21 = M7 97 21 := by rw [hM8]; exact mu_ne _ _ (by first | decide | omega)
  have wM8_97_32 : M8 97 32 = M7 97 32 := by rw [hM8]; exact mu_ne _ _ (by first | decide | omega)
  have xM8_97_19 : M8 97 19 = 0 := (show M8 97 19 = M7 97 19 by rw [hM8]; exact mu_ne _ _ (by first | decide | omega)).trans xM7_97_19
  have xM8_97_21 : M8 97 21 = 0 := (show M8 97 21 = M7 97 21 by rw [hM8]; exact mu_ne _ _ (by first | decide | omega)).trans xM7_97_21
  have xM8_97_24 : M8 97 24 = 0 := (show M8 97 24 = M7 97 24 by rw [hM8]; exact mu_ne _ _ (by first | decide | omega)).trans xM7_97_24
  have xM8_97_33 : M8 97 33 = (-1) := by rw [hM8]; exact mu_at _ _ _ _
  have c1M8 : M8 101 = M 101 := (show M8 101 = M7 101 by rw [hM8, mu_cell _ _ (by decide)]).trans c1M7
  have tkM8 : TK M8 := TK.eq tkM7 (show M8 97 12 = M7 97 12 by rw [hM8]; exact mu_ne _ _ (by first | decide | omega)) (show M8 97 13 = M7 97 13 by rw [hM8]; exact mu_ne _ _ (by first | decide | omega)) (show M8 97 14 = M7 97 14 by rw [hM8]; exact mu_ne _ _ (by first | decide | omega)) (show M8 97 15 = M7 97 15 by rw [hM8]; exact mu_ne _ _ (by first | decide | omega)) (show M8 97 16 = M7 97 16 by rw [hM8]; exact mu_ne _ _ (by first | decide | omega))
  refine g_aload_n (pc' := 30) 0 dX10_evening_29 rfl rfl ?_
  refine g_callVv (pc' := 33) (As := []) (b := 97) (S := []) dX10_evening_30 rfl m_X10_325 w_X10_readClause (c_X10_readClause X M8 iM8 tkM8 (by omega) (by omega) (by omega) (CLS.zero (by omega))) rfl ⟨_, _, _, rfl, rfl, rfl⟩ (by decide) (by decide) rfl (Nat.le_of_ble_eq_true rfl) (fun M10 q9 => ?_)
  obtain ⟨iM10, fM100, eM10_97_12, pM10⟩ := q9
  have fM10 : Fr (fun c => 97 ≤ c ∧ c ≤ 116) M M10 := Fr.tr fM8 fM100 fi_43
  have q99_0_M10 : (M10 99 0 = M 99 0) := (congrFun (fM100 99 (by first | decide | omega | (dsimp only; omega))) 0).trans q99_0_M8
  have q99_1_M10 : (M10 99 1 = M 99 1) := (congrFun (fM100 99 (by first | decide | omega | (dsimp only; omega))) 1).trans q99_1_M8
  have q99_2_M10 : (M10 99 2 = M 99 2) := (congrFun (fM100 99 (by first | decide | omega | (dsimp only; omega))) 2).trans q99_2_M8
  have q99_3_M10 : (M10 99 3 = M 99 3) := (congrFun (fM100 99 (by first | decide | omega | (dsimp only; omega))) 3).trans q99_3_M8
  have q100_0_M10 : id (M10 100 0 = M 100 0) := (congrFun (fM100 100 (by first | decide | omega | (dsimp only; omega))) 0).trans q100_0_M8
  have q100_1_M10 : id (M10 100 1 = M 100 1) := (congrFun (fM100 100 (by first | decide | omega | (dsimp only; omega))) 1).trans q100_1_M8
  have q100_2_M10 : id (M10 100 2 = M 100 2) := (congrFun (fM100 100 (by first | decide | omega | (dsimp only; omega))) 2).trans q100_2_M8
  have q100_3_M10 : id (M10 100 3 = M 100 3) := (congrFun (fM100 100 (by first | decide | omega | (dsimp only; omega))) 3).trans q100_3_M8
  have q100_49_M10 : id (M10 100 49 = M 100 49) := (congrFun (fM100 100 (by first | decide | omega | (dsimp only; omega))) 49).trans q100_49_M8
  have q100_50_M10 : id (M10 100 50 = M 100 50) := (congrFun (fM100 100 (by first | decide | omega | (dsimp only; omega))) 50).trans q100_50_M8
  have q100_51_M10 : id (M10 100 51 = M 100 51) := (congrFun (fM100 100 (by first | decide | omega | (dsimp only; omega))) 51).trans q100_51_M8
  have q100_52_M10 : id (M10 100 52 = M 100 52) := (congrFun (fM100 100 (by first | decide | omega | (dsimp only; omega))) 52).trans q100_52_M8
  have q103_0_M10 : id (M10 103 0 = M 103 0) := (congrFun (fM100 103 (by first | decide | omega | (dsimp only; omega))) 0).trans q103_0_M8
  have q103_1_M10 : id (M10 103 1 = M 103 1) := (congrFun (fM100 103 (by first | decide | omega | (dsimp only; omega))) 1).trans q103_1_M8
  have q97_12_M10 : (M10 97 12 = M 97 12) := eM10_97_12.trans q97_12_M8
  have wM10_97_12 : M10 97 12 = M8 97 12 := eM10_97_12
  have c1M10 : M10 101 = M 101 := (fM100 101 (by decide)).trans c1M8
  obtain ⟨tkM10, naM10, nbM10, ncM10, cbM10⟩ := pM10
  have tbM10 := tkM10.b
  refine g_sub [0] rfl ?_
  exact l_X10_evening_33 X M hi _ M10 iM10 fM10 q99_0_M10 q99_1_M10 q99_2_M10 q99_3_M10 q100_0_M10 q100_1_M10 q100_2_M10 q100_3_M10 q100_49_M10 q100_50_M10 q100_51_M10 q100_52_M10 q103_0_M10 q103_1_M10 tkM10 (by omega) cbM10 (by omega) c1M10 rfl
