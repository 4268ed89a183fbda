set_option maxHeartbeats 4000000 in
set_option maxRecDepth 100000 in
theorem j_X10_readClause_z_407 (X : Cx) (M : Mm) (hi : IM M) (htk : TK M) (hbad : M 97 18 = 0) (hn19 : 0 ≤ M 97 19 ∧ M 97 19 ≤ 12) (hnc : 0 ≤ M 97 21 ∧ M 97 21 ≤ M 97 13) (hcl : CLS M) (K W S E : Nat → Int) (m i : Nat) (lv : Int) (hz : TZM M K W S E m) (hat : AT K W S E m M i) (h24 : M 97 24 = lv) (hd : Int) (cx : Int) (M1 : Mm) (ic1 : IM M1) (fr1 : Fr (fun c => c = 97 ∨ (107 ≤ c ∧ c ≤ 111)) M M1) (q97_12 : (M1 97 12 = M 97 12)) (q97_10 : (M1 97 10 = M 97 10)) (q97_44 : (M1 97 44 = M 97 44)) (q97_33 : (M1 97 33 = M 97 33)) (hhd : 0 ≤ hd ∧ hd ≤ 2) (hcx : cx = 8 * M 97 19 ∧ M 97 19 < 12) (hds : HDs K W i hd) (tz1 : TZM M1 K W S E m) (un1 : UN M M1 cx) (lo1 : LO M M1 (M 97 21)) (tk1 : TK M1) (k01 : M1 107 cx.toNat = hd) (nm1 : M 97 21 ≤ M1 97 21 ∧ M1 97 21 ≤ M1 97 13 ∧ M 97 13 < M1 97 13) (ncl1 : M1 97 19 = M 97 19 + 1) (k11 : K1 (M1 97 18) (M1 107 (cx + 1).toNat) hd) (k31 : M1 107 (cx + 3).toNat = M 97 21) (k41 : K4 M1 (M 97 21) (M1 107 (cx + 4).toNat)) (k4n1 : M1 107 (cx + 4).toNat ≤ M1 97 21) (k21 : K2 (M1 97 18) (M1 107 (cx + 2).toNat)) (k71 : K7 (M1 97 18) (M1 107 (cx + 7).toNat)) (k51 : K4 M1 (M1 107 (cx + 5).toNat) (M1 97 21)) (k5n1 : 0 ≤ M1 107 (cx + 5).toNat ∧ M1 107 (cx + 5).toNat ≤ M1 97 21) (y11 : YV (M1 97 18) (M1 107 (cx + 1).toNat) (Y1v K W hd i lv)) (y41 : Y4 M1 (M 97 21) (M1 107 (cx + 4).toNat) (yF K W hd i lv)) (y21 : Y2a (M1 97 18) (M1 107 (cx + 2).toNat) hd (W (sW K W 655 (g224 K W hd i lv)).2.1)) (y71 : YV (M1 97 18) (M1 107 (cx + 7).toNat) (cTv K W (g280 K W hd i lv).2.1)) (yj1 : YJ K W hd i lv M1 (M1 107 (cx + 5).toNat) (M1 97 21)) (sg1 : STG K W S E m M1 (g407 K W hd i lv)) : G X 7 RX10 cX10_readClause 4 none (Qv (fun M1 => IM M1 ∧ Fr (fun c => c = 97 ∨ (107 ≤ c ∧ c ≤ 111)) M M1 ∧ M1 97 12 = M 97 12 ∧ M1 97 10 = M 97 10 ∧ M1 97 44 = M 97 44 ∧ M1 97 33 = M 97 33 ∧ (CLQ K W S E m i lv (M 97 19) M1 ∧ TK M1 ∧ (0 ≤ M1 97 19 ∧ M1 97 19 ≤ 12) ∧ (0 ≤ M1 97 21 ∧ M1 97 21 ≤ M1 97 13) ∧ M 97 13 ≤ M1 97 13 ∧ CB M1 ∧ (M1 97 18 = 0 → CLM K W i lv M1 (8 * M 97 19) ∧ UN M M1 (8 * M 97 19) ∧ LO M M1 (M 97 21) ∧ M 97 21 ≤ M1 97 21)))) 407 [(1, vi hd), (2, vi cx), (0, vr X 97)] [] M1 := by
  have p12 := hi.2.2.2.1
  have tb1 := tk1.b
  have lt1 := tk1.lt
  refine g_aload_n (pc' := 408) 2 dX10_readClause_407 rfl rfl ?_
  refine g_getR (pc' := 411) dX10_readClause_408 rfl f_X10_43 rfl rfl ?_
  refine g_iload_n (pc' := 412) 1 dX10_readClause_411 rfl rfl ?_
  refine g_bipush (pc' := 414) (v := 6) dX10_readClause_412 rfl (by decide) ?_
  refine g_iadd (pc' := 415) dX10_readClause_414 rfl ?_
  refine g_aload_n (pc' := 416) 2 dX10_readClause_415 rfl rfl ?_
  refine g_getI (pc' := 419) dX10_readClause_416 rfl f_X10_191 rfl rfl (fun v2 ev2 rv2 => ?_)
  refine g_iast (pc' := 420) dX10_readClause_419 rfl rfl (by omega) (by omega) rv2 (fun M3 hM3 => ?_)
  have iM3 : IM M3 := IM.wr ic1 hM3 (by unfold okv; first | decide | omega)
  have fM3 : Fr (fun c => c = 97 ∨ (107 ≤ c ∧ c ≤ 111)) M M3 := Fr.wr fr1 hM3 (by first | decide | omega | (dsimp only; omega))
  have q97_12_M3 : (M3 97 12 = M 97 12) := (show M3 97 12 = M1 97 12 by rw [hM3]; exact mu_ne _ _ (by first | decide | omega)).trans q97_12
  have q97_10_M3 : (M3 97 10 = M 97 10) := (show M3 97 10 = M1 97 10 by rw [hM3]; exact mu_ne _ _ (by first | decide | omega)).trans q97_10
  have q97_44_M3 : (M3 97 44 = M 97 44) := (show M3 97 44 = M1 97 44 by rw [hM3]; exact mu_ne _ _ (by first | decide | omega)).trans q97_44
  have q97_33_M3 : (M3 97 33 = M 97 33) := (show M3 97 33 = M1 97 33 by rw [hM3]; exact mu_ne _ _ (by first | decide | omega)).trans q97_33
  have wM3_97_12 : M3 97 12 = M1 97 12 := by rw [hM3]; exact mu_ne _ _ (by first | decide | omega)
  have wM3_97_13 : M3 97 13 = M1 97 13 := by rw [hM3]; exact mu_ne _ _ (by first | decide | omega)
  have wM3_97_14 : M3 97 14 = M1 97 14 := by rw [hM3]; exact mu_ne _ _ (by first | decide | omega)
  have wM3_97_15 : M3 97 15 = M1 97 15 := by rw [hM3]; exact mu_ne _ _ (by first | decide | omega)
  have wM3_97_16 : M3 97 16 = M1 97 16 := by rw [hM3]; exact mu_ne _ _ (by first | decide | omega)
  have wM3_97_17 : M3 97 17 = M1 97 17 := by rw [hM3]; exact mu_ne _ _ (by first | decide | omega)
  have wM3_97_18 : M3 97 18 = M1 97 18 := by rw [hM3]; exact mu_ne _ _ (by first | decide | omega)
  have wM3_97_19 : M3 97 19 = M1 97 19 := by rw [hM3]; exact mu_ne _ _ (by first | decide | omega)
  have wM3_97_21 : M3 97 21 = M1 97 21 := by rw [hM3]; exact mu_ne _ _ (by first | decide | omega)
  have wM3_97_24 : M3 97 24 = M1 97 24 := by rw [hM3]; exact mu_ne _ _ (by first | decide | omega)
  have vM3_0 : M3 107 cx.toNat = M1 107 cx.toNat := (by rw [hM3]; exact mu_ne _ _ (by first | decide | omega))
  have vM3_1 : M3 107 (cx + 1).toNat = M1 107 (cx + 1).toNat := (by rw [hM3]; exact mu_ne _ _ (by first | decide | omega))
  have vM3_2 : M3 107 (cx + 2).toNat = M1 107 (cx + 2).toNat := (by rw [hM3]; exact mu_ne _ _ (by first | decide | omega))
  have vM3_3 : M3 107 (cx + 3).toNat = M1 107 (cx + 3).toNat := (by rw [hM3]; exact mu_ne _ _ (by first | decide | omega))
  have vM3_4 : M3 107 (cx + 4).toNat = M1 107 (cx + 4).toNat := (by rw [hM3]; exact mu_ne _ _ (by first | decide | omega))
  have vM3_5 : M3 107 (cx + 5).toNat = M1 107 (cx + 5).toNat := (by rw [hM3]; exact mu_ne _ _ (by first | decide | omega))
  have vM3_7 : M3 107 (cx + 7).toNat = M1 107 (cx + 7).toNat := (by rw [hM3]; exact mu_ne _ _ (by first | decide | omega))
  have unM3 : UN M M3 cx := UN.wr un1 hM3 (by omega)
  have loM3 : LO M M3 (M 97 21) := LO.tr lo1 (LO.eq (by rw [hM3, mu_cell _ _ (by decide)]) (by rw [hM3, mu_cell _ _ (by decide)]))
  have tkM3 : TK M3 := TK.eq tk1 (show M3 97 12 = M1 97 12 by rw [hM3]; exact mu_ne _ _ (by first | decide | omega)) (show M3 97 13 = M1 97 13 by rw [hM3]; exact mu_ne _ _ (by first | decide | omega)) (show M3 97 14 = M1 97 14 by rw [hM3]; exact mu_ne _ _ (by first | decide | omega)) (show M3 97 15 = M1 97 15 by rw [hM3]; exact mu_ne _ _ (by first | decide | omega)) (show M3 97 16 = M1 97 16 by rw [hM3]; exact mu_ne _ _ (by first | decide | omega))
  have k0M3 : M3 107 cx.toNat = hd := vM3_0.trans k01
  have nmM3 : M 97 21 ≤ M3 97 21 ∧ M3 97 21 ≤ M3 97 13 ∧ M 97 13 < M3 97 13 := (by omega)
  have nclM3 : M3 97 19 = M 97 19 + 1 := (by omega)
  have k1M3 : K1 (M3 97 18) (M3 107 (cx + 1).toNat) hd := K1.nx k11 (by omega) vM3_1
  have k3M3 : M3 107 (cx + 3).toNat = M 97 21 := vM3_3.trans k31
  have k4M3 : K4 M3 (M 97 21) (M3 107 (cx + 4).toNat) := K4.nx k41 (by omega) (by rw [hM3, mu_cell _ _ (by decide)]) (by rw [hM3, mu_cell _ _ (by decide)]) rfl vM3_4
  have k4nM3 : M3 107 (cx + 4).toNat ≤ M3 97 21 := (by omega)
  have k2M3 : K2 (M3 97 18) (M3 107 (cx + 2).toNat) := K2.nx k21 (by omega) vM3_2
  have k7M3 : K7 (M3 97 18) (M3 107 (cx + 7).toNat) := K7.nx k71 (by omega) vM3_7
  have k5M3 : K4 M3 (M3 107 (cx + 5).toNat) (M3 97 21) := K4.nx k51 (by omega) (by rw [hM3, mu_cell _ _ (by decide)]) (by rw [hM3, mu_cell _ _ (by decide)]) vM3_5 (by omega)
  have k5nM3 : 0 ≤ M3 107 (cx + 5).toNat ∧ M3 107 (cx + 5).toNat ≤ M3 97 21 := (by omega)
  have y1M3 : YV (M3 97 18) (M3 107 (cx + 1).toNat) (Y1v K W hd i lv) := YV.nx y11 (by omega) vM3_1
  have y4M3 : Y4 M3 (M 97 21) (M3 107 (cx + 4).toNat) (yF K W hd i lv) := Y4.nx y41 (by omega) (by rw [hM3, mu_cell _ _ (by decide)]) (by rw [hM3, mu_cell _ _ (by decide)]) rfl vM3_4
  have y2M3 : Y2a (M3 97 18) (M3 107 (cx + 2).toNat) hd (W (sW K W 655 (g224 K W hd i lv)).2.1) := Y2a.nx y21 (by omega) vM3_2
  have y7M3 : YV (M3 97 18) (M3 107 (cx + 7).toNat) (cTv K W (g280 K W hd i lv).2.1) := YV.nx y71 (by omega) vM3_7
  have xM3_6 : M3 107 (cx + 6).toNat = v2 := by rw [hM3]; exact mu_at _ _ _ _
  have y6M3 : YJ K W hd i lv M3 (M3 107 (cx + 5).toNat) (M3 107 (cx + 6).toNat) := YJ.nx yj1 (by omega) (by rw [hM3, mu_cell _ _ (by decide)]) (by rw [hM3, mu_cell _ _ (by decide)]) vM3_5 (by omega)
  have k6M3 : K4 M3 (M3 107 (cx + 5).toNat) (M3 107 (cx + 6).toNat) := K4.nx k5M3 (by omega) rfl rfl rfl (by omega)
  have k6nM3 : M3 107 (cx + 6).toNat ≤ M3 97 21 := (by omega)
  have tzM3 : TZM M3 K W S E m := TZM.eq tz1 (by rw [hM3]; exact mu_cell _ _ (by decide)) (show M3 97 12 = M1 97 12 by rw [hM3]; exact mu_ne _ _ (by first | decide | omega))
  have sgM3 : STG K W S E m M3 (g407 K W hd i lv) := STG.eq sg1 (by omega) (by omega) (by omega) (by omega) (by omega) (by omega) (by omega)
  refine g_vreturn dX10_readClause_420 ?_
  exact ⟨iM3, fM3, q97_12_M3, q97_10_M3, q97_44_M3, q97_33_M3, CLQ.ok hds (by omega) (by omega) sgM3, tkM3, by omega, by omega, by omega, CB.add hcl (by omega) (by omega) (by omega) unM3 loM3 (by omega) k0M3 (by omega) k1M3 k2M3 k7M3 k3M3 k4M3 (by omega) k6M3 (by omega), fun z => by
      rw [← hcx.1]
      exact ⟨CLM.mk_ hds sgM3 z k0M3 y1M3 y2M3 y7M3 k3M3 y4M3 y6M3 (by omega), unM3, loM3, by omega⟩⟩
set_option maxHeartbeats 4000000 in
set_option maxRecDepth 100000 in
theorem j_X10_readClause_z_369 (X : Cx) (M : Mm) (hi : IM M) (htk : TK M) (hbad : M 97 18 = 0) (hn19 : 0 ≤ M 97 19 ∧ M 97 19 ≤ 12) (hnc : 0 ≤ M 97 21 ∧ M 97 21 ≤ M 97 13) (hcl : CLS M) (K W S E : Nat → Int) (m i : Nat) (lv : Int) (hz : TZM M K W S E m) (hat : AT K W S E m M i) (h24 : M 97 24 = lv) (hd : Int) (cx : Int) (M1 : Mm) (ic1 : IM M1) (fr1 : Fr (fun c => c = 97 ∨ (107 ≤ c ∧ c ≤ 111)) M M1) (q97_12 : (M1 97 12 = M 97 12)) (q97_10 : (M1 97 10 = M 97 10)) (q97_44 : (M1 97 44 = M 97 44)) (q97_33 : (M1 97 33 = M 97 33)) (hhd : 0 ≤ hd ∧ hd ≤ 2) (hcx : cx = 8 * M 97 19 ∧ M 97 19 < 12) (hds : HDs K W i hd) (tz1 : TZM M1 K W S E m) (un1 : UN M M1 cx) (lo1 : LO M M1 (M 97 21)) (tk1 : TK M1) (k01 : M1 107 cx.toNat = hd) (nm1 : M 97 21 ≤ M1 97 21 ∧ M1 97 21 ≤ M1 97 13 ∧ M 97 13 < M1 97 13) (ncl1 : M1 97 19 = M 97 19 + 1) (k11 : K1 (M1 97 18) (M1 107 (cx + 1).toNat) hd) (k31 : M1 107 (cx + 3).toNat = M 97 21) (k41 : K4 M1 (M 97 21) (M1 107 (cx + 4).toNat)) (k4n1 : M1 107 (cx + 4).toNat ≤ M1 97 21) (k21 : K2 (M1 97 18) (M1 107 (cx + 2).toNat)) (k71 : K7 (M1 97 18) (M1 107 (cx + 7).toNat)) (y11 : YV (M1 97 18) (M1 107 (cx + 1).toNat) (Y1v K W hd i lv)) (y41 : Y4 M1 (M 97 21) (M1 107 (cx + 4).toNat) (yF K W hd i lv)) (y21 : Y2a (M1 97 18) (M1 107 (cx + 2).toNat) hd (W (sW K W 655 (g224 K W hd i lv)).2.1)) (y71 : YV (M1 97 18) (M1 107 (cx + 7).toNat) (cTv K W (g280 K W hd i lv).2.1)) (sg1 : STG K W S E m M1 (g369 K W hd i lv)) : G X 7 RX10 cX10_readClause 4 none (Qv (fun M1 => IM M1 ∧ Fr (fun c => c = 97 ∨ (107 ≤ c ∧ c ≤ 111)) M M1 ∧ M1 97 12 = M 97 12 ∧ M1 97 10 = M 97 10 ∧ M1 97 44 = M 97 44 ∧ M1 97 33 = M 97 33 ∧ (CLQ K W S E m i lv (M 97 19) M1 ∧ TK M1 ∧ (0 ≤ M1 97 19 ∧ M1 97 19 ≤ 12) ∧ (0 ≤ M1 97 21 ∧ M1 97 21 ≤ M1 97 13) ∧ M 97 13 ≤ M1 97 13 ∧ CB M1 ∧ (M1 97 18 = 0 → CLM K W i lv M1 (8 * M 97 19) ∧ UN M M1 (8 * M 97 19) ∧ LO M M1 (M 97 21) ∧ M 97 21 ≤ M1 97 21)))) 369 [(1, vi hd), (2, vi cx), (0, vr X 97)] [] M1 := by
  have p12 := hi.2.2.2.1
  have tb1 := tk1.b
  have lt1 := tk1.lt
  refine g_aload_n (pc' := 370) 2 dX10_readClause_369 rfl rfl ?_
  refine g_getR (pc' := 373) dX10_readClause_370 rfl f_X10_43 rfl rfl ?_
  refine g_iload_n (pc' := 374) 1 dX10_readClause_373 rfl rfl ?_
  refine g_iconst (pc' := 375) dX10_readClause_374 rfl ?_
  refine g_iadd (pc' := 376) dX10_readClause_375 rfl ?_
  refine g_aload_n (pc' := 377) 2 dX10_readClause_376 rfl rfl ?_
  refine g_getI (pc' := 380) dX10_readClause_377 rfl f_X10_191 rfl rfl (fun v2 ev2 rv2 => ?_)
  refine g_iast (pc' := 381) dX10_readClause_380 rfl rfl (by omega) (by omega) rv2 (fun M3 hM3 => ?_)
  have iM3 : IM M3 := IM.wr ic1 hM3 (by unfold okv; first | decide | omega)
  have fM3 : Fr (fun c => c = 97 ∨ (107 ≤ c ∧ c ≤ 111)) M M3 := Fr.wr fr1 hM3 (by first | decide | omega | (dsimp only; omega))
  have q97_12_M3 : (M3 97 12 = M 97 12) := (show M3 97 12 = M1 97 12 by rw [hM3]; exact mu_ne _ _ (by first | decide | omega)).trans q97_12
  have q97_10_M3 : (M3 97 10 = M 97 10) := (show M3 97 10 = M1 97 10 by rw [hM3]; exact mu_ne _ _ (by first | decide | omega)).trans q97_10
  have q97_44_M3 : (M3 97 44 = M 97 44) := (show M3 97 44 = M1 97 44 by rw [hM3]; exact mu_ne _ _ (by first | decide | omega)).trans q97_44
  have q97_33_M3 : (M3 97 33 = M 97 33) := (show M3 97 33 = M1 97 33 by rw [hM3]; exact mu_ne _ _ (by first | decide | omega)).trans q97_33
  have wM3_97_12 : M3 97 12 = M1 97 12 := by rw [hM3]; exact mu_ne _ _ (by first | decide | omega)
  have wM3_97_13 : M3 97 13 = M1 97 13 := by rw [hM3]; exact mu_ne _ _ (by first | decide | omega)
  have wM3_97_14 : M3 97 14 = M1 97 14 := by rw [hM3]; exact mu_ne _ _ (by first | decide | omega)
  have wM3_97_15 : M3 97 15 = M1 97 15 := by rw [hM3]; exact mu_ne _ _ (by first | decide | omega)
  have wM3_97_16 : M3 97 16 = M1 97 16 := by rw [hM3]; exact mu_ne _ _ (by first | decide | omega)
  have wM3_97_17 : M3 97 17 = M1 97 17 := by rw [hM3]; exact mu_ne _ _ (by first | decide | omega)
  have wM3_97_18 : M3 97 18 = M1 97 18 := by rw [hM3]; exact mu_ne _ _ (by first | decide | omega)
  have wM3_97_19 : M3 97 19 = M1 97 19 := by rw [hM3]; exact mu_ne _ _ (by first | decide | omega)
  have wM3_97_21 : M3 97 21 = M1 97 21 := by rw [hM3]; exact mu_ne _ _ (by first | decide | omega)
  have wM3_97_24 : M3 97 24 = M1 97 24 := by rw [hM3]; exact mu_ne _ _ (by first | decide | omega)
  have vM3_0 : M3 107 cx.toNat = M1 107 cx.toNat := (by rw [hM3]; exact mu_ne _ _ (by first | decide | omega))
  have vM3_1 : M3 107 (cx + 1).toNat = M1 107 (cx + 1).toNat := (by rw [hM3]; exact mu_ne _ _ (by first | decide | omega))
  have vM3_2 : M3 107 (cx + 2).toNat = M1 107 (cx + 2).toNat := (by rw [hM3]; exact mu_ne _ _ (by first | decide | omega))
  have vM3_3 : M3 107 (cx + 3).toNat = M1 107 (cx + 3).toNat := (by rw [hM3]; exact mu_ne _ _ (by first | decide | omega))
  have vM3_4 : M3 107 (cx + 4).toNat = M1 107 (cx + 4).toNat := (by rw [hM3]; exact mu_ne _ _ (by first | decide | omega))
  have vM3_7 : M3 107 (cx + 7).toNat = M1 107 (cx + 7).toNat := (by rw [hM3]; exact mu_ne _ _ (by first | decide | omega))
  have unM3 : UN M M3 cx := UN.wr un1 hM3 (by omega)
  have loM3 : LO M M3 (M 97 21) := LO.tr lo1 (LO.eq (by rw [hM3, mu_cell _ _ (by decide)]) (by rw [hM3, mu_cell _ _ (by decide)]))
  have tkM3 : TK M3 := TK.eq tk1 (show M3 97 12 = M1 97 12 by rw [hM3]; exact mu_ne _ _ (by first | decide | omega)) (show M3 97 13 = M1 97 13 by rw [hM3]; exact mu_ne _ _ (by first | decide | omega)) (show M3 97 14 = M1 97 14 by rw [hM3]; exact mu_ne _ _ (by first | decide | omega)) (show M3 97 15 = M1 97 15 by rw [hM3]; exact mu_ne _ _ (by first | decide | omega)) (show M3 97 16 = M1 97 16 by rw [hM3]; exact mu_ne _ _ (by first | decide | omega))
  have k0M3 : M3 107 cx.toNat = hd := vM3_0.trans k01
  have nmM3 : M 97 21 ≤ M3 97 21 ∧ M3 97 21 ≤ M3 97 13 ∧ M 97 13 < M3 97 13 := (by omega)
  have nclM3 : M3 97 19 = M 97 19 + 1 := (by omega)
  have k1M3 : K1 (M3 97 18) (M3 107 (cx + 1).toNat) hd := K1.nx k11 (by omega) vM3_1
  have k3M3 : M3 107 (cx + 3).toNat = M 97 21 := vM3_3.trans k31
  have k4M3 : K4 M3 (M 97 21) (M3 107 (cx + 4).toNat) := K4.nx k41 (by omega) (by rw [hM3, mu_cell _ _ (by decide)]) (by rw [hM3, mu_cell _ _ (by decide)]) rfl vM3_4
  have k4nM3 : M3 107 (cx + 4).toNat ≤ M3 97 21 := (by omega)
  have k2M3 : K2 (M3 97 18) (M3 107 (cx + 2).toNat) := K2.nx k21 (by omega) vM3_2
  have k7M3 : K7 (M3 97 18) (M3 107 (cx + 7).toNat) := K7.nx k71 (by omega) vM3_7
  have y1M3 : YV (M3 97 18) (M3 107 (cx + 1).toNat) (Y1v K W hd i lv) := YV.nx y11 (by omega) vM3_1
  have y4M3 : Y4 M3 (M 97 21) (M3 107 (cx + 4).toNat) (yF K W hd i lv) := Y4.nx y41 (by omega) (by rw [hM3, mu_cell _ _ (by decide)]) (by rw [hM3, mu_cell _ _ (by decide)]) rfl vM3_4
  have y2M3 : Y2a (M3 97 18) (M3 107 (cx + 2).toNat) hd (W (sW K W 655 (g224 K W hd i lv)).2.1) := Y2a.nx y21 (by omega) vM3_2
  have y7M3 : YV (M3 97 18) (M3 107 (cx + 7).toNat) (cTv K W (g280 K W hd i lv).2.1) := YV.nx y71 (by omega) vM3_7
  have xM3_5 : M3 107 (cx + 5).toNat = v2 := by rw [hM3]; exact mu_at _ _ _ _
  have k5M3 : K4 M3 (M3 107 (cx + 5).toNat) (M3 97 21) := K4.nil (by omega) (by omega)
  have k5nM3 : 0 ≤ M3 107 (cx + 5).toNat ∧ M3 107 (cx + 5).toNat ≤ M3 97 21 := (by omega)
  have y5M3 : M3 107 (cx + 5).toNat = M3 97 21 := (by omega)
  have tzM3 : TZM M3 K W S E m := TZM.eq tz1 (by rw [hM3]; exact mu_cell _ _ (by decide)) (show M3 97 12 = M1 97 12 by rw [hM3]; exact mu_ne _ _ (by first | decide | omega))
  have sgM3 : STG K W S E m M3 (g369 K W hd i lv) := STG.eq sg1 (by omega) (by omega) (by omega) (by omega) (by omega) (by omega) (by omega)
  refine g_aload_n (pc' := 382) 2 dX10_readClause_381 rfl rfl ?_
  refine g_getI (pc' := 385) dX10_readClause_382 rfl f_X10_154 rfl rfl (fun v4 ev4 rv4 => ?_)
  refine g_if_ne (pc' := 388) (tgt := 407) rv4 dX10_readClause_385 rfl rfl (fun c5 => ?_) (fun c5 => ?_)
  · refine g_sub [0, 1, 2] rfl ?_
    exact j_X10_readClause_z_407 X M hi htk hbad hn19 hnc hcl K W S E m i lv hz hat h24 hd cx M3 iM3 fM3 q97_12_M3 q97_10_M3 q97_44_M3 q97_33_M3 (by omega) (by omega) hds tzM3 unM3 loM3 tkM3 k0M3 (by omega) (by omega) k1M3 k3M3 k4M3 (by omega) k2M3 k7M3 k5M3 (by omega) y1M3 y4M3 y2M3 y7M3 (by first | exact ⟨fun _ => Y4.bad (by omega), fun _ z => absurd z (by omega)⟩ | exact ⟨fun y => absurd y (STG.if_no tzM3 sgM3 (by omega) (by omega)), fun _ _ => (by omega)⟩) (by
        unfold g407
        first | exact STG.stc sgM3 (by omega) (sIf_0 K W) | exact STG.if_n tzM3 sgM3 (by omega) (by omega))
  · refine g_aload_n (pc' := 389) 2 dX10_readClause_388 rfl rfl ?_
    refine g_ldc2 (pc' := 392) (v := 294) dX10_readClause_389 rfl k_X10_296 ?_
    refine g_callVip (pc' := 395) (As := [vl 294]) (b := 97) (S := []) dX10_readClause_392 rfl m_X10_229 w_X10_isWord (c_X10_isWord_x X M3 iM3 294 (by decide)) rfl ⟨_, _, _, rfl, rfl, rfl⟩ (by decide) (by decide) rfl (Nat.le_of_ble_eq_true rfl) (fun z7 q6 => ?_)
    refine g_if_eq (pc' := 398) (tgt := 407) ⟨by omega, by omega⟩ dX10_readClause_395 rfl rfl (fun c8 => ?_) (fun c8 => ?_)
    · replace q6 := q6.resolve_left (fun h => absurd (c8.symm.trans h.1) (by decide))
      refine g_sub [0, 1, 2] rfl ?_
      exact j_X10_readClause_z_407 X M hi htk hbad hn19 hnc hcl K W S E m i lv hz hat h24 hd cx M3 iM3 fM3 q97_12_M3 q97_10_M3 q97_44_M3 q97_33_M3 (by omega) (by omega) hds tzM3 unM3 loM3 tkM3 k0M3 (by omega) (by omega) k1M3 k3M3 k4M3 (by omega) k2M3 k7M3 k5M3 (by omega) y1M3 y4M3 y2M3 y7M3 (by first | exact ⟨fun _ => Y4.bad (by omega), fun _ z => absurd z (by omega)⟩ | exact ⟨fun y => absurd y (STG.if_no tzM3 sgM3 (by omega) (by omega)), fun _ _ => (by omega)⟩) (by
          unfold g407
          first | exact STG.stc sgM3 (by omega) (sIf_0 K W) | exact STG.if_n tzM3 sgM3 (by omega) (by omega))
    · replace q6 := q6.resolve_right (fun h => c8 h.1)
      refine g_aload_n (pc' := 399) 2 dX10_readClause_398 rfl rfl ?_
      refine g_callVv (pc' := 402) (As := []) (b := 97) (S := []) dX10_readClause_399 rfl m_X10_158 w_X10_next (c_X10_next_x X M3 iM3 (by omega)) rfl ⟨_, _, _, rfl, rfl, rfl⟩ (by decide) (by decide) rfl (Nat.le_of_ble_eq_true rfl) (fun M10 q9 => ?_)
      obtain ⟨iM10, fM100, eM10_97_12, eM10_97_19, eM10_97_21, eM10_97_24, eM10_97_27, eM10_97_28, eM10_97_10, eM10_97_44, eM10_97_33, eM10_97_18, eM10_97_17, pM10⟩ := q9
      have fM10 : Fr (fun c => c = 97 ∨ (107 ≤ c ∧ c ≤ 111)) M M10 := Fr.tr fM3 fM100 fi_52
      have q97_12_M10 : (M10 97 12 = M 97 12) := eM10_97_12.trans q97_12_M3
      have q97_10_M10 : (M10 97 10 = M 97 10) := eM10_97_10.trans q97_10_M3
      have q97_44_M10 : (M10 97 44 = M 97 44) := eM10_97_44.trans q97_44_M3
      have q97_33_M10 : (M10 97 33 = M 97 33) := eM10_97_33.trans q97_33_M3
      have wM10_97_12 : M10 97 12 = M3 97 12 := eM10_97_12
      have wM10_97_17 : M10 97 17 = M3 97 17 := eM10_97_17
      have wM10_97_18 : M10 97 18 = M3 97 18 := eM10_97_18
      have wM10_97_19 : M10 97 19 = M3 97 19 := eM10_97_19
      have wM10_97_21 : M10 97 21 = M3 97 21 := eM10_97_21
      have wM10_97_24 : M10 97 24 = M3 97 24 := eM10_97_24
      have tzM10 : TZM M10 K W S E m := TZM.eq tzM3 (fM100 106 (by decide)) eM10_97_12
      obtain ⟨xxM10, pM10⟩ := pM10
      obtain ⟨aM10p, kM10p⟩ := pM10
      have tkM10 : TK M10 := kM10p
      clear kM10p
      have tbM10 := tkM10.b
      have vM10_0 : M10 107 cx.toNat = M3 107 cx.toNat := (congrFun (fM100 107 (by decide)) _)
      have vM10_1 : M10 107 (cx + 1).toNat = M3 107 (cx + 1).toNat := (congrFun (fM100 107 (by decide)) _)
      have vM10_2 : M10 107 (cx + 2).toNat = M3 107 (cx + 2).toNat := (congrFun (fM100 107 (by decide)) _)
      have vM10_3 : M10 107 (cx + 3).toNat = M3 107 (cx + 3).toNat := (congrFun (fM100 107 (by decide)) _)
      have vM10_4 : M10 107 (cx + 4).toNat = M3 107 (cx + 4).toNat := (congrFun (fM100 107 (by decide)) _)
      have vM10_5 : M10 107 (cx + 5).toNat = M3 107 (cx + 5).toNat := (congrFun (fM100 107 (by decide)) _)
      have vM10_7 : M10 107 (cx + 7).toNat = M3 107 (cx + 7).toNat := (congrFun (fM100 107 (by decide)) _)
      have unM10 : UN M M10 cx := UN.nx unM3 (fM100 107 (by decide))
      have loM10 : LO M M10 (M 97 21) := LO.tr loM3 (LO.eq (fM100 108 (by decide)) (fM100 109 (by decide)))
      have k0M10 : M10 107 cx.toNat = hd := vM10_0.trans k0M3
      have nmM10 : M 97 21 ≤ M10 97 21 ∧ M10 97 21 ≤ M10 97 13 ∧ M 97 13 < M10 97 13 := (by omega)
      have nclM10 : M10 97 19 = M 97 19 + 1 := (by omega)
      have k1M10 : K1 (M10 97 18) (M10 107 (cx + 1).toNat) hd := K1.nx k1M3 (by omega) vM10_1
      have k3M10 : M10 107 (cx + 3).toNat = M 97 21 := vM10_3.trans k3M3
      have k4M10 : K4 M10 (M 97 21) (M10 107 (cx + 4).toNat) := K4.nx k4M3 (by omega) (fM100 108 (by decide)) (fM100 109 (by decide)) rfl vM10_4
      have k4nM10 : M10 107 (cx + 4).toNat ≤ M10 97 21 := (by omega)
      have k2M10 : K2 (M10 97 18) (M10 107 (cx + 2).toNat) := K2.nx k2M3 (by omega) vM10_2
      have k7M10 : K7 (M10 97 18) (M10 107 (cx + 7).toNat) := K7.nx k7M3 (by omega) vM10_7
      have y1M10 : YV (M10 97 18) (M10 107 (cx + 1).toNat) (Y1v K W hd i lv) := YV.nx y1M3 (by omega) vM10_1
      have y4M10 : Y4 M10 (M 97 21) (M10 107 (cx + 4).toNat) (yF K W hd i lv) := Y4.nx y4M3 (by omega) (fM100 108 (by decide)) (fM100 109 (by decide)) rfl vM10_4
      have y2M10 : Y2a (M10 97 18) (M10 107 (cx + 2).toNat) hd (W (sW K W 655 (g224 K W hd i lv)).2.1) := Y2a.nx y2M3 (by omega) vM10_2
      have y7M10 : YV (M10 97 18) (M10 107 (cx + 7).toNat) (cTv K W (g280 K W hd i lv).2.1) := YV.nx y7M3 (by omega) vM10_7
      have k5M10 : K4 M10 (M10 107 (cx + 5).toNat) (M10 97 21) := K4.nx k5M3 (by omega) (fM100 108 (by decide)) (fM100 109 (by decide)) vM10_5 (by omega)
      have k5nM10 : 0 ≤ M10 107 (cx + 5).toNat ∧ M10 107 (cx + 5).toNat ≤ M10 97 21 := (by omega)
      have y5M10 : M10 107 (cx + 5).toNat = M10 97 21 := (by omega)
      obtain ⟨jj, ll, ja, jb, jc, ⟨jd, je⟩, jif⟩ := STG.if_pre2 tzM3 sgM3 (by omega) (by omega) xxM10 (by omega) (by omega)
      refine g_aload_n (pc' := 403) 2 dX10_readClause_402 rfl rfl ?_
      refine g_iconst (pc' := 404) dX10_readClause_403 rfl ?_
      refine g_callVv (pc' := 407) (As := [vi 1]) (b := 97) (S := []) dX10_readClause_404 rfl m_X10_287 w_X10_readExpression (c_X10_readExpression_z X M10 iM10 1 (by decide) tkM10 (by omega) (by omega) K W S E m jj ll true (Or.inl ⟨by decide, rfl⟩) tzM10 ja jb) rfl ⟨_, _, _, rfl, rfl, rfl⟩ (by decide) (by decide) rfl (Nat.le_of_ble_eq_true rfl) (fun M12 q11 => ?_)
      obtain ⟨iM12, fM120, eM12_97_12, eM12_97_19, eM12_97_10, eM12_97_44, eM12_97_33, pM12⟩ := q11
      have fM12 : Fr (fun c => c = 97 ∨ (107 ≤ c ∧ c ≤ 111)) M M12 := Fr.tr fM10 fM120 fi_53
      have q97_12_M12 : (M12 97 12 = M 97 12) := eM12_97_12.trans q97_12_M10
      have q97_10_M12 : (M12 97 10 = M 97 10) := eM12_97_10.trans q97_10_M10
      have q97_44_M12 : (M12 97 44 = M 97 44) := eM12_97_44.trans q97_44_M10
      have q97_33_M12 : (M12 97 33 = M 97 33) := eM12_97_33.trans q97_33_M10
      have wM12_97_12 : M12 97 12 = M10 97 12 := eM12_97_12
      have wM12_97_19 : M12 97 19 = M10 97 19 := eM12_97_19
      have tzM12 : TZM M12 K W S E m := TZM.eq tzM10 (fM120 106 (by decide)) eM12_97_12
      obtain ⟨xxM12, zqM12, pM12⟩ := pM12
      obtain ⟨sM12x, xM12x, lM12x, tkM12, aM12x⟩ := pM12
      have tbM12 := tkM12.b
      have srM12 := sM12x.ar
      have vM12_0 : M12 107 cx.toNat = M10 107 cx.toNat := (congrFun (fM120 107 (by decide)) _)
      have vM12_1 : M12 107 (cx + 1).toNat = M10 107 (cx + 1).toNat := (congrFun (fM120 107 (by decide)) _)
      have vM12_2 : M12 107 (cx + 2).toNat = M10 107 (cx + 2).toNat := (congrFun (fM120 107 (by decide)) _)
      have vM12_3 : M12 107 (cx + 3).toNat = M10 107 (cx + 3).toNat := (congrFun (fM120 107 (by decide)) _)
      have vM12_4 : M12 107 (cx + 4).toNat = M10 107 (cx + 4).toNat := (congrFun (fM120 107 (by decide)) _)
      have vM12_5 : M12 107 (cx + 5).toNat = M10 107 (cx + 5).toNat := (congrFun (fM120 107 (by decide)) _)
      have vM12_7 : M12 107 (cx + 7).toNat = M10 107 (cx + 7).toNat := (congrFun (fM120 107 (by decide)) _)
      have unM12 : UN M M12 cx := UN.nx unM10 (fM120 107 (by decide))
      have loM12 : LO M M12 (M 97 21) := LO.tr loM10 (LO.mo lM12x (by omega))
      have k0M12 : M12 107 cx.toNat = hd := vM12_0.trans k0M10
      have nmM12 : M 97 21 ≤ M12 97 21 ∧ M12 97 21 ≤ M12 97 13 ∧ M 97 13 < M12 97 13 := (by omega)
      have nclM12 : M12 97 19 = M 97 19 + 1 := (by omega)
      have k1M12 : K1 (M12 97 18) (M12 107 (cx + 1).toNat) hd := K1.nx k1M10 (by omega) vM12_1
      have k3M12 : M12 107 (cx + 3).toNat = M 97 21 := vM12_3.trans k3M10
      have k4M12 : K4 M12 (M 97 21) (M12 107 (cx + 4).toNat) := K4.lo k4M10 (by omega) lM12x (by omega) rfl vM12_4
      have k4nM12 : M12 107 (cx + 4).toNat ≤ M12 97 21 := (by omega)
      have k2M12 : K2 (M12 97 18) (M12 107 (cx + 2).toNat) := K2.nx k2M10 (by omega) vM12_2
      have k7M12 : K7 (M12 97 18) (M12 107 (cx + 7).toNat) := K7.nx k7M10 (by omega) vM12_7
      have y1M12 : YV (M12 97 18) (M12 107 (cx + 1).toNat) (Y1v K W hd i lv) := YV.nx y1M10 (by omega) vM12_1
      have y4M12 : Y4 M12 (M 97 21) (M12 107 (cx + 4).toNat) (yF K W hd i lv) := Y4.lo y4M10 (by omega) lM12x (by omega) rfl vM12_4
      have y2M12 : Y2a (M12 97 18) (M12 107 (cx + 2).toNat) hd (W (sW K W 655 (g224 K W hd i lv)).2.1) := Y2a.nx y2M10 (by omega) vM12_2
      have y7M12 : YV (M12 97 18) (M12 107 (cx + 7).toNat) (cTv K W (g280 K W hd i lv).2.1) := YV.nx y7M10 (by omega) vM12_7
      have k5M12 : K4 M12 (M12 107 (cx + 5).toNat) (M12 97 21) := K4.rx xM12x (by omega) rfl
      have k5nM12 : 0 ≤ M12 107 (cx + 5).toNat ∧ M12 107 (cx + 5).toNat ≤ M12 97 21 := (by omega)
      have yjM12 : YJ K W hd i lv M12 (M12 107 (cx + 5).toNat) (M12 97 21) := ⟨fun _ z => by
          have q := zqM12 z
          rw [show M10 97 21 = M10 107 (cx + 5).toNat by omega, ← vM12_5] at q
          unfold yG
          rw [jd, je]
          exact q, fun y => absurd jif y⟩
      have sgM12 : STG K W S E m M12 (sIf K W (g369 K W hd i lv)) := (by rw [jc]; exact xxM12)
      refine g_sub [0, 1, 2] rfl ?_
      exact j_X10_readClause_z_407 X M hi htk hbad hn19 hnc hcl K W S E m i lv hz hat h24 hd cx M12 iM12 fM12 q97_12_M12 q97_10_M12 q97_44_M12 q97_33_M12 (by omega) (by omega) hds tzM12 unM12 loM12 tkM12 k0M12 (by omega) (by omega) k1M12 k3M12 k4M12 (by omega) k2M12 k7M12 k5M12 (by omega) y1M12 y4M12 y2M12 y7M12 yjM12 sgM12
set_option maxHeartbeats 4000000 in
set_option maxRecDepth 100000 in
theorem j_X10_readClause_z_280 (X : Cx) (M : Mm) (hi : IM M) (htk : TK M) (hbad : M 97 18 = 0) (hn19 : 0 ≤ M 97 19 ∧ M 97 19 ≤ 12) (hnc : 0 ≤ M 97 21 ∧ M 97 21 ≤ M 97 13) (hcl : CLS M) (K W S E : Nat → Int) (m i : Nat) (lv : Int) (hz : TZM M K W S E m) (hat : AT K W S E m M i) (h24 : M 97 24 = lv) (hd : Int) (cx : Int) (M1 : Mm) (ic1 : IM M1) (fr1 : Fr (fun c => c = 97 ∨ (107 ≤ c ∧ c ≤ 111)) M M1) (q97_12 : (M1 97 12 = M 97 12)) (q97_10 : (M1 97 10 = M 97 10)) (q97_44 : (M1 97 44 = M 97 44)) (q97_33 : (M1 97 33 = M 97 33)) (hhd : 0 ≤ hd ∧ hd ≤ 2) (hcx : cx = 8 * M 97 19 ∧ M 97 19 < 12) (hds : HDs K W i hd) (tz1 : TZM M1 K W S E m) (un1 : UN M M1 cx) (lo1 : LO M M1 (M 97 21)) (tk1 : TK M1) (k01 : M1 107 cx.toNat = hd) (nm1 : M 97 21 ≤ M1 97 21 ∧ M1 97 21 ≤ M1 97 13 ∧ M 97 13 < M1 97 13) (ncl1 : M1 97 19 = M 97 19 + 1) (k11 : K1 (M1 97 18) (M1 107 (cx + 1).toNat) hd) (k31 : M1 107 (cx + 3).toNat = M 97 21) (k41 : K4 M1 (M 97 21) (M1 107 (cx + 4).toNat)) (k4n1 : M1 107 (cx + 4).toNat ≤ M1 97 21) (k21 : K2 (M1 97 18) (M1 107 (cx + 2).toNat)) (y11 : YV (M1 97 18) (M1 107 (cx + 1).toNat) (Y1v K W hd i lv)) (y41 : Y4 M1 (M 97 21) (M1 107 (cx + 4).toNat) (yF K W hd i lv)) (y21 : Y2a (M1 97 18) (M1 107 (cx + 2).toNat) hd (W (sW K W 655 (g224 K W hd i lv)).2.1)) (sg1 : STG K W S E m M1 (g280 K W hd i lv)) : G X 7 RX10 cX10_readClause 4 none (Qv (fun M1 => IM M1 ∧ Fr (fun c => c = 97 ∨ (107 ≤ c ∧ c ≤ 111)) M M1 ∧ M1 97 12 = M 97 12 ∧ M1 97 10 = M 97 10 ∧ M1 97 44 = M 97 44 ∧ M1 97 33 = M 97 33 ∧ (CLQ K W S E m i lv (M 97 19) M1 ∧ TK M1 ∧ (0 ≤ M1 97 19 ∧ M1 97 19 ≤ 12) ∧ (0 ≤ M1 97 21 ∧ M1 97 21 ≤ M1 97 13) ∧ M 97 13 ≤ M1 97 13 ∧ CB M1 ∧ (M1 97 18 = 0 → CLM K W i lv M1 (8 * M 97 19) ∧ UN M M1 (8 * M 97 19) ∧ LO M M1 (M 97 21) ∧ M 97 21 ≤ M1 97 21)))) 280 [(1, vi hd), (2, vi cx), (0, vr X 97)] [] M1 := by
  have p12 := hi.2.2.2.1
  have tb1 := tk1.b
  have lt1 := tk1.lt
  refine g_aload_n (pc' := 281) 2 dX10_readClause_280 rfl rfl ?_
  refine g_getR (pc' := 284) dX10_readClause_281 rfl f_X10_43 rfl rfl ?_
  refine g_iload_n (pc' := 285) 1 dX10_readClause_284 rfl rfl ?_
  refine g_bipush (pc' := 287) (v := 7) dX10_readClause_285 rfl (by decide) ?_
  refine g_iadd (pc' := 288) dX10_readClause_287 rfl ?_
  refine g_iconst (pc' := 289) dX10_readClause_288 rfl ?_
  refine g_iast (pc' := 290) dX10_readClause_289 rfl rfl (by omega) (by omega) (by decide) (fun M2 hM2 => ?_)
  have iM2 : IM M2 := IM.wr ic1 hM2 (by unfold okv; first | decide | omega)
  have fM2 : Fr (fun c => c = 97 ∨ (107 ≤ c ∧ c ≤ 111)) M M2 := Fr.wr fr1 hM2 (by first | decide | omega | (dsimp only; omega))
  have q97_12_M2 : (M2 97 12 = M 97 12) := (show M2 97 12 = M1 97 12 by rw [hM2]; exact mu_ne _ _ (by first | decide | omega)).trans q97_12
  have q97_10_M2 : (M2 97 10 = M 97 10) := (show M2 97 10 = M1 97 10 by rw [hM2]; exact mu_ne _ _ (by first | decide | omega)).trans q97_10
  have q97_44_M2 : (M2 97 44 = M 97 44) := (show M2 97 44 = M1 97 44 by rw [hM2]; exact mu_ne _ _ (by first | decide | omega)).trans q97_44
  have q97_33_M2 : (M2 97 33 = M 97 33) := (show M2 97 33 = M1 97 33 by rw [hM2]; exact mu_ne _ _ (by first | decide | omega)).trans q97_33
  have wM2_97_12 : M2 97 12 = M1 97 12 := by rw [hM2]; exact mu_ne _ _ (by first | decide | omega)
  have wM2_97_13 : M2 97 13 = M1 97 13 := by rw [hM2]; exact mu_ne _ _ (by first | decide | omega)
  have wM2_97_14 : M2 97 14 = M1 97 14 := by rw [hM2]; exact mu_ne _ _ (by first | decide | omega)
  have wM2_97_15 : M2 97 15 = M1 97 15 := by rw [hM2]; exact mu_ne _ _ (by first | decide | omega)
  have wM2_97_16 : M2 97 16 = M1 97 16 := by rw [hM2]; exact mu_ne _ _ (by first | decide | omega)
  have wM2_97_17 : M2 97 17 = M1 97 17 := by rw [hM2]; exact mu_ne _ _ (by first | decide | omega)
  have wM2_97_18 : M2 97 18 = M1 97 18 := by rw [hM2]; exact mu_ne _ _ (by first | decide | omega)
  have wM2_97_19 : M2 97 19 = M1 97 19 := by rw [hM2]; exact mu_ne _ _ (by first | decide | omega)
  have wM2_97_21 : M2 97 21 = M1 97 21 := by rw [hM2]; exact mu_ne _ _ (by first | decide | omega)
  have wM2_97_24 : M2 97 24 = M1 97 24 := by rw [hM2]; exact mu_ne _ _ (by first | decide | omega)
  have vM2_0 : M2 107 cx.toNat = M1 107 cx.toNat := (by rw [hM2]; exact mu_ne _ _ (by first | decide | omega))
  have vM2_1 : M2 107 (cx + 1).toNat = M1 107 (cx + 1).toNat := (by rw [hM2]; exact mu_ne _ _ (by first | decide | omega))
  have vM2_2 : M2 107 (cx + 2).toNat = M1 107 (cx + 2).toNat := (by rw [hM2]; exact mu_ne _ _ (by first | decide | omega))
  have vM2_3 : M2 107 (cx + 3).toNat = M1 107 (cx + 3).toNat := (by rw [hM2]; exact mu_ne _ _ (by first | decide | omega))
  have vM2_4 : M2 107 (cx + 4).toNat = M1 107 (cx + 4).toNat := (by rw [hM2]; exact mu_ne _ _ (by first | decide | omega))
  have unM2 : UN M M2 cx := UN.wr un1 hM2 (by omega)
  have loM2 : LO M M2 (M 97 21) := LO.tr lo1 (LO.eq (by rw [hM2, mu_cell _ _ (by decide)]) (by rw [hM2, mu_cell _ _ (by decide)]))
  have tkM2 : TK M2 := TK.eq tk1 (show M2 97 12 = M1 97 12 by rw [hM2]; exact mu_ne _ _ (by first | decide | omega)) (show M2 97 13 = M1 97 13 by rw [hM2]; exact mu_ne _ _ (by first | decide | omega)) (show M2 97 14 = M1 97 14 by rw [hM2]; exact mu_ne _ _ (by first | decide | omega)) (show M2 97 15 = M1 97 15 by rw [hM2]; exact mu_ne _ _ (by first | decide | omega)) (show M2 97 16 = M1 97 16 by rw [hM2]; exact mu_ne _ _ (by first | decide | omega))
  have k0M2 : M2 107 cx.toNat = hd := vM2_0.trans k01
  have nmM2 : M 97 21 ≤ M2 97 21 ∧ M2 97 21 ≤ M2 97 13 ∧ M 97 13 < M2 97 13 := (by omega)
  have nclM2 : M2 97 19 = M 97 19 + 1 := (by omega)
  have k1M2 : K1 (M2 97 18) (M2 107 (cx + 1).toNat) hd := K1.nx k11 (by omega) vM2_1
  have k3M2 : M2 107 (cx + 3).toNat = M 97 21 := vM2_3.trans k31
  have k4M2 : K4 M2 (M 97 21) (M2 107 (cx + 4).toNat) := K4.nx k41 (by omega) (by rw [hM2, mu_cell _ _ (by decide)]) (by rw [hM2, mu_cell _ _ (by decide)]) rfl vM2_4
  have k4nM2 : M2 107 (cx + 4).toNat ≤ M2 97 21 := (by omega)
  have k2M2 : K2 (M2 97 18) (M2 107 (cx + 2).toNat) := K2.nx k21 (by omega) vM2_2
  have y1M2 : YV (M2 97 18) (M2 107 (cx + 1).toNat) (Y1v K W hd i lv) := YV.nx y11 (by omega) vM2_1
  have y4M2 : Y4 M2 (M 97 21) (M2 107 (cx + 4).toNat) (yF K W hd i lv) := Y4.nx y41 (by omega) (by rw [hM2, mu_cell _ _ (by decide)]) (by rw [hM2, mu_cell _ _ (by decide)]) rfl vM2_4
  have y2M2 : Y2a (M2 97 18) (M2 107 (cx + 2).toNat) hd (W (sW K W 655 (g224 K W hd i lv)).2.1) := Y2a.nx y21 (by omega) vM2_2
  have xM2_7 : M2 107 (cx + 7).toNat = 1 := by rw [hM2]; exact mu_at _ _ _ _
  have k7M2 : K7 (M2 97 18) (M2 107 (cx + 7).toNat) := (by unfold K7; omega)
  have tzM2 : TZM M2 K W S E m := TZM.eq tz1 (by rw [hM2]; exact mu_cell _ _ (by decide)) (show M2 97 12 = M1 97 12 by rw [hM2]; exact mu_ne _ _ (by first | decide | omega))
  have sgM2 : STG K W S E m M2 (g280 K W hd i lv) := STG.eq sg1 (by omega) (by omega) (by omega) (by omega) (by omega) (by omega) (by omega)
  refine g_aload_n (pc' := 291) 2 dX10_readClause_290 rfl rfl ?_
  refine g_getI (pc' := 294) dX10_readClause_291 rfl f_X10_154 rfl rfl (fun v3 ev3 rv3 => ?_)
  refine g_if_ne (pc' := 297) (tgt := 369) rv3 dX10_readClause_294 rfl rfl (fun c4 => ?_) (fun c4 => ?_)
  · refine g_sub [0, 1, 2] rfl ?_
    exact j_X10_readClause_z_369 X M hi htk hbad hn19 hnc hcl K W S E m i lv hz hat h24 hd cx M2 iM2 fM2 q97_12_M2 q97_10_M2 q97_44_M2 q97_33_M2 (by omega) (by omega) hds tzM2 unM2 loM2 tkM2 k0M2 (by omega) (by omega) k1M2 k3M2 k4M2 (by omega) k2M2 k7M2 y1M2 y4M2 y2M2 (fun z => by first | exact absurd z (by omega) | exact xM2_7.trans (STG.tv_n tzM2 sgM2 (by omega) (by omega)).symm) (by
        unfold g369
        first | exact STG.stc sgM2 (by omega) (sTm_0 K W) | exact STG.tm_n tzM2 sgM2 (by omega) (by omega))
  · refine g_aload_n (pc' := 298) 2 dX10_readClause_297 rfl rfl ?_
    refine g_ldc2 (pc' := 301) (v := 21279923) dX10_readClause_298 rfl k_X10_294 ?_
    refine g_callVip (pc' := 304) (As := [vl 21279923]) (b := 97) (S := []) dX10_readClause_301 rfl m_X10_229 w_X10_isWord (c_X10_isWord_x X M2 iM2 21279923 (by decide)) rfl ⟨_, _, _, rfl, rfl, rfl⟩ (by decide) (by decide) rfl (Nat.le_of_ble_eq_true rfl) (fun z6 q5 => ?_)
    refine g_if_eq (pc' := 307) (tgt := 369) ⟨by omega, by omega⟩ dX10_readClause_304 rfl rfl (fun c7 => ?_) (fun c7 => ?_)
    · replace q5 := q5.resolve_left (fun h => absurd (c7.symm.trans h.1) (by decide))
      refine g_sub [0, 1, 2] rfl ?_
      exact j_X10_readClause_z_369 X M hi htk hbad hn19 hnc hcl K W S E m i lv hz hat h24 hd cx M2 iM2 fM2 q97_12_M2 q97_10_M2 q97_44_M2 q97_33_M2 (by omega) (by omega) hds tzM2 unM2 loM2 tkM2 k0M2 (by omega) (by omega) k1M2 k3M2 k4M2 (by omega) k2M2 k7M2 y1M2 y4M2 y2M2 (fun z => by first | exact absurd z (by omega) | exact xM2_7.trans (STG.tv_n tzM2 sgM2 (by omega) (by omega)).symm) (by
          unfold g369
          first | exact STG.stc sgM2 (by omega) (sTm_0 K W) | exact STG.tm_n tzM2 sgM2 (by omega) (by omega))
    · replace q5 := q5.resolve_right (fun h => c7 h.1)
      refine g_aload_n (pc' := 308) 2 dX10_readClause_307 rfl rfl ?_
      refine g_callVv (pc' := 311) (As := []) (b := 97) (S := []) dX10_readClause_308 rfl m_X10_158 w_X10_next (c_X10_next_x X M2 iM2 (by omega)) rfl ⟨_, _, _, rfl, rfl, rfl⟩ (by decide) (by decide) rfl (Nat.le_of_ble_eq_true rfl) (fun M9 q8 => ?_)
      obtain ⟨iM9, fM90, eM9_97_12, eM9_97_19, eM9_97_21, eM9_97_24, eM9_97_27, eM9_97_28, eM9_97_10, eM9_97_44, eM9_97_33, eM9_97_18, eM9_97_17, pM9⟩ := q8
      have fM9 : Fr (fun c => c = 97 ∨ (107 ≤ c ∧ c ≤ 111)) M M9 := Fr.tr fM2 fM90 fi_52
      have q97_12_M9 : (M9 97 12 = M 97 12) := eM9_97_12.trans q97_12_M2
      have q97_10_M9 : (M9 97 10 = M 97 10) := eM9_97_10.trans q97_10_M2
      have q97_44_M9 : (M9 97 44 = M 97 44) := eM9_97_44.trans q97_44_M2
      have q97_33_M9 : (M9 97 33 = M 97 33) := eM9_97_33.trans q97_33_M2
      have wM9_97_12 : M9 97 12 = M2 97 12 := eM9_97_12
      have wM9_97_17 : M9 97 17 = M2 97 17 := eM9_97_17
      have wM9_97_18 : M9 97 18 = M2 97 18 := eM9_97_18
      have wM9_97_19 : M9 97 19 = M2 97 19 := eM9_97_19
      have wM9_97_21 : M9 97 21 = M2 97 21 := eM9_97_21
      have wM9_97_24 : M9 97 24 = M2 97 24 := eM9_97_24
      have tzM9 : TZM M9 K W S E m := TZM.eq tzM2 (fM90 106 (by decide)) eM9_97_12
      obtain ⟨xxM9, pM9⟩ := pM9
      obtain ⟨aM9p, kM9p⟩ := pM9
      have tkM9 : TK M9 := kM9p
      clear kM9p
      have tbM9 := tkM9.b
      have vM9_0 : M9 107 cx.toNat = M2 107 cx.toNat := (congrFun (fM90 107 (by decide)) _)
      have vM9_1 : M9 107 (cx + 1).toNat = M2 107 (cx + 1).toNat := (congrFun (fM90 107 (by decide)) _)
      have vM9_2 : M9 107 (cx + 2).toNat = M2 107 (cx + 2).toNat := (congrFun (fM90 107 (by decide)) _)
      have vM9_3 : M9 107 (cx + 3).toNat = M2 107 (cx + 3).toNat := (congrFun (fM90 107 (by decide)) _)
      have vM9_4 : M9 107 (cx + 4).toNat = M2 107 (cx + 4).toNat := (congrFun (fM90 107 (by decide)) _)
      have vM9_7 : M9 107 (cx + 7).toNat = M2 107 (cx + 7).toNat := (congrFun (fM90 107 (by decide)) _)
      have unM9 : UN M M9 cx := UN.nx unM2 (fM90 107 (by decide))
      have loM9 : LO M M9 (M 97 21) := LO.tr loM2 (LO.eq (fM90 108 (by decide)) (fM90 109 (by decide)))
      have k0M9 : M9 107 cx.toNat = hd := vM9_0.trans k0M2
      have nmM9 : M 97 21 ≤ M9 97 21 ∧ M9 97 21 ≤ M9 97 13 ∧ M 97 13 < M9 97 13 := (by omega)
      have nclM9 : M9 97 19 = M 97 19 + 1 := (by omega)
      have k1M9 : K1 (M9 97 18) (M9 107 (cx + 1).toNat) hd := K1.nx k1M2 (by omega) vM9_1
      have k3M9 : M9 107 (cx + 3).toNat = M 97 21 := vM9_3.trans k3M2
      have k4M9 : K4 M9 (M 97 21) (M9 107 (cx + 4).toNat) := K4.nx k4M2 (by omega) (fM90 108 (by decide)) (fM90 109 (by decide)) rfl vM9_4
      have k4nM9 : M9 107 (cx + 4).toNat ≤ M9 97 21 := (by omega)
      have k2M9 : K2 (M9 97 18) (M9 107 (cx + 2).toNat) := K2.nx k2M2 (by omega) vM9_2
      have y1M9 : YV (M9 97 18) (M9 107 (cx + 1).toNat) (Y1v K W hd i lv) := YV.nx y1M2 (by omega) vM9_1
      have y4M9 : Y4 M9 (M 97 21) (M9 107 (cx + 4).toNat) (yF K W hd i lv) := Y4.nx y4M2 (by omega) (fM90 108 (by decide)) (fM90 109 (by decide)) rfl vM9_4
      have y2M9 : Y2a (M9 97 18) (M9 107 (cx + 2).toNat) hd (W (sW K W 655 (g224 K W hd i lv)).2.1) := Y2a.nx y2M2 (by omega) vM9_2
      have k7M9 : K7 (M9 97 18) (M9 107 (cx + 7).toNat) := K7.nx k7M2 (by omega) vM9_7
      have awM9 : True := trivial
      refine g_aload_n (pc' := 312) 2 dX10_readClause_311 rfl rfl ?_
      refine g_getI (pc' := 315) dX10_readClause_312 rfl f_X10_174 rfl rfl (fun v10 ev10 rv10 => ?_)
      refine g_iconst (pc' := 316) dX10_readClause_315 rfl ?_
      refine g_ic_ne (pc' := 319) (tgt := 332) rv10 (by decide) dX10_readClause_316 rfl rfl (fun c11 => ?_) (fun c11 => ?_)
      · refine g_iconst (pc' := 333) dX10_readClause_332 rfl ?_
        refine g_istore_n (pc' := 334) (i := 3) (L' := [(3, vi 0), (1, vi hd), (2, vi cx), (0, vr X 97)]) dX10_readClause_333 rfl rfl (by decide) rfl ?_
        refine g_iload_n (pc' := 335) 0 dX10_readClause_334 rfl rfl ?_
        refine g_if_eq (pc' := 338) (tgt := 343) (by decide) dX10_readClause_335 rfl rfl (fun c12 => ?_) (fun c12 => ?_)
        · refine g_aload_n (pc' := 344) 3 dX10_readClause_343 rfl rfl ?_
          refine g_getR (pc' := 347) dX10_readClause_344 rfl f_X10_43 rfl rfl ?_
          refine g_iload_n (pc' := 348) 2 dX10_readClause_347 rfl rfl ?_
          refine g_bipush (pc' := 350) (v := 7) dX10_readClause_348 rfl (by decide) ?_
          refine g_iadd (pc' := 351) dX10_readClause_350 rfl ?_
          refine g_aload_n (pc' := 352) 3 dX10_readClause_351 rfl rfl ?_
          refine g_getI (pc' := 355) dX10_readClause_352 rfl f_X10_154 rfl rfl (fun v13 ev13 rv13 => ?_)
          refine g_if_eq (pc' := 358) (tgt := 362) rv13 dX10_readClause_355 rfl rfl (fun c14 => ?_) (fun c14 => ?_)
          · refine g_aload_n (pc' := 363) 3 dX10_readClause_362 rfl rfl ?_
            refine g_bipush (pc' := 365) (v := 20) dX10_readClause_363 rfl (by decide) ?_
            refine g_callVi (pc' := 368) (As := [vi 20]) (b := 97) (S := [vi (cx + 7), vr X 107]) dX10_readClause_365 rfl m_X10_245 w_X10_readNumber (c_X10_readNumber_x X M9 iM9 20 (by decide) tkM9 (by omega)) rfl ⟨_, _, _, rfl, rfl, rfl⟩ (by decide) (by decide) rfl (Nat.le_of_ble_eq_true rfl) (fun z16 M17 q15 => ?_)
            obtain ⟨iM17, fM170, eM17_97_12, eM17_97_19, eM17_97_21, eM17_97_24, eM17_97_27, eM17_97_28, eM17_97_10, eM17_97_44, eM17_97_33, pM17⟩ := q15
            have fM17 : Fr (fun c => c = 97 ∨ (107 ≤ c ∧ c ≤ 111)) M M17 := Fr.tr fM9 fM170 fi_52
            have q97_12_M17 : (M17 97 12 = M 97 12) := eM17_97_12.trans q97_12_M9
            have q97_10_M17 : (M17 97 10 = M 97 10) := eM17_97_10.trans q97_10_M9
            have q97_44_M17 : (M17 97 44 = M 97 44) := eM17_97_44.trans q97_44_M9
            have q97_33_M17 : (M17 97 33 = M 97 33) := eM17_97_33.trans q97_33_M9
            have wM17_97_12 : M17 97 12 = M9 97 12 := eM17_97_12
            have wM17_97_19 : M17 97 19 = M9 97 19 := eM17_97_19
            have wM17_97_21 : M17 97 21 = M9 97 21 := eM17_97_21
            have wM17_97_24 : M17 97 24 = M9 97 24 := eM17_97_24
            have tzM17 : TZM M17 K W S E m := TZM.eq tzM9 (fM170 106 (by decide)) eM17_97_12
            obtain ⟨xxM17, pM17⟩ := pM17
            obtain ⟨aM17p, bM17p, cM17p, dM17p, kM17p⟩ := pM17
            have tkM17 : TK M17 := kM17p
            clear kM17p
            have tbM17 := tkM17.b
            have vM17_0 : M17 107 cx.toNat = M9 107 cx.toNat := (congrFun (fM170 107 (by decide)) _)
            have vM17_1 : M17 107 (cx + 1).toNat = M9 107 (cx + 1).toNat := (congrFun (fM170 107 (by decide)) _)
            have vM17_2 : M17 107 (cx + 2).toNat = M9 107 (cx + 2).toNat := (congrFun (fM170 107 (by decide)) _)
            have vM17_3 : M17 107 (cx + 3).toNat = M9 107 (cx + 3).toNat := (congrFun (fM170 107 (by decide)) _)
            have vM17_4 : M17 107 (cx + 4).toNat = M9 107 (cx + 4).toNat := (congrFun (fM170 107 (by decide)) _)
            have vM17_7 : M17 107 (cx + 7).toNat = M9 107 (cx + 7).toNat := (congrFun (fM170 107 (by decide)) _)
            have unM17 : UN M M17 cx := UN.nx unM9 (fM170 107 (by decide))
            have loM17 : LO M M17 (M 97 21) := LO.tr loM9 (LO.eq (fM170 108 (by decide)) (fM170 109 (by decide)))
            have k0M17 : M17 107 cx.toNat = hd := vM17_0.trans k0M9
            have nmM17 : M 97 21 ≤ M17 97 21 ∧ M17 97 21 ≤ M17 97 13 ∧ M 97 13 < M17 97 13 := (by omega)
            have nclM17 : M17 97 19 = M 97 19 + 1 := (by omega)
            have k1M17 : K1 (M17 97 18) (M17 107 (cx + 1).toNat) hd := K1.nx k1M9 (by omega) vM17_1
            have k3M17 : M17 107 (cx + 3).toNat = M 97 21 := vM17_3.trans k3M9
            have k4M17 : K4 M17 (M 97 21) (M17 107 (cx + 4).toNat) := K4.nx k4M9 (by omega) (fM170 108 (by decide)) (fM170 109 (by decide)) rfl vM17_4
            have k4nM17 : M17 107 (cx + 4).toNat ≤ M17 97 21 := (by omega)
            have k2M17 : K2 (M17 97 18) (M17 107 (cx + 2).toNat) := K2.nx k2M9 (by omega) vM17_2
            have y1M17 : YV (M17 97 18) (M17 107 (cx + 1).toNat) (Y1v K W hd i lv) := YV.nx y1M9 (by omega) vM17_1
            have y4M17 : Y4 M17 (M 97 21) (M17 107 (cx + 4).toNat) (yF K W hd i lv) := Y4.nx y4M9 (by omega) (fM170 108 (by decide)) (fM170 109 (by decide)) rfl vM17_4
            have y2M17 : Y2a (M17 97 18) (M17 107 (cx + 2).toNat) hd (W (sW K W 655 (g224 K W hd i lv)).2.1) := Y2a.nx y2M9 (by omega) vM17_2
            have k7M17 : K7 (M17 97 18) (M17 107 (cx + 7).toNat) := K7.nx k7M9 (by omega) vM17_7
            have nvM17 : M17 97 18 = 0 → z16 = cTv K W (g280 K W hd i lv).2.1 := by first | exact STG.tv_y tzM2 tzM9 sgM2 (by omega) (by omega) xxM9 (by omega) (by omega) xxM17 | exact False.elim (by omega)
            have sgM17 : STG K W S E m M17 (sTm K W (g280 K W hd i lv)) := (by first | exact STG.tm_1 tzM2 tzM9 sgM2 (by omega) (by omega) xxM9 (by omega) (by omega) (by omega) xxM17 (by omega) | exact False.elim (by omega))
            refine g_iast (pc' := 369) dX10_readClause_368 rfl rfl (by omega) (by omega) ⟨by omega, by omega⟩ (fun M18 hM18 => ?_)
            have iM18 : IM M18 := IM.wr iM17 hM18 (by unfold okv; first | decide | omega)
            have fM18 : Fr (fun c => c = 97 ∨ (107 ≤ c ∧ c ≤ 111)) M M18 := Fr.wr fM17 hM18 (by first | decide | omega | (dsimp only; omega))
            have q97_12_M18 : (M18 97 12 = M 97 12) := (show M18 97 12 = M17 97 12 by rw [hM18]; exact mu_ne _ _ (by first | decide | omega)).trans q97_12_M17
            have q97_10_M18 : (M18 97 10 = M 97 10) := (show M18 97 10 = M17 97 10 by rw [hM18]; exact mu_ne _ _ (by first | decide | omega)).trans q97_10_M17
            have q97_44_M18 : (M18 97 44 = M 97 44) := (show M18 97 44 = M17 97 44 by rw [hM18]; exact mu_ne _ _ (by first | decide | omega)).trans q97_44_M17
            have q97_33_M18 : (M18 97 33 = M 97 33) := (show M18 97 33 = M17 97 33 by rw [hM18]; exact mu_ne _ _ (by first | decide | omega)).trans q97_33_M17
            have wM18_97_12 : M18 97 12 = M17 97 12 := by rw [hM18]; exact mu_ne _ _ (by first | decide | omega)
            have wM18_97_13 : M18 97 13 = M17 97 13 := by rw [hM18]; exact mu_ne _ _ (by first | decide | omega)
            have wM18_97_14 : M18 97 14 = M17 97 14 := by rw [hM18]; exact mu_ne _ _ (by first | decide | omega)
            have wM18_97_15 : M18 97 15 = M17 97 15 := by rw [hM18]; exact mu_ne _ _ (by first | decide | omega)
            have wM18_97_16 : M18 97 16 = M17 97 16 := by rw [hM18]; exact mu_ne _ _ (by first | decide | omega)
            have wM18_97_17 : M18 97 17 = M17 97 17 := by rw [hM18]; exact mu_ne _ _ (by first | decide | omega)
            have wM18_97_18 : M18 97 18 = M17 97 18 := by rw [hM18]; exact mu_ne _ _ (by first | decide | omega)
            have wM18_97_19 : M18 97 19 = M17 97 19 := by rw [hM18]; exact mu_ne _ _ (by first | decide | omega)
            have wM18_97_21 : M18 97 21 = M17 97 21 := by rw [hM18]; exact mu_ne _ _ (by first | decide | omega)
            have wM18_97_24 : M18 97 24 = M17 97 24 := by rw [hM18]; exact mu_ne _ _ (by first | decide | omega)
            have vM18_0 : M18 107 cx.toNat = M17 107 cx.toNat := (by rw [hM18]; exact mu_ne _ _ (by first | decide | omega))
            have vM18_1 : M18 107 (cx + 1).toNat = M17 107 (cx + 1).toNat := (by rw [hM18]; exact mu_ne _ _ (by first | decide | omega))
            have vM18_2 : M18 107 (cx + 2).toNat = M17 107 (cx + 2).toNat := (by rw [hM18]; exact mu_ne _ _ (by first | decide | omega))
            have vM18_3 : M18 107 (cx + 3).toNat = M17 107 (cx + 3).toNat := (by rw [hM18]; exact mu_ne _ _ (by first | decide | omega))
            have vM18_4 : M18 107 (cx + 4).toNat = M17 107 (cx + 4).toNat := (by rw [hM18]; exact mu_ne _ _ (by first | decide | omega))
            have unM18 : UN M M18 cx := UN.wr unM17 hM18 (by omega)
            have loM18 : LO M M18 (M 97 21) := LO.tr loM17 (LO.eq (by rw [hM18, mu_cell _ _ (by decide)]) (by rw [hM18, mu_cell _ _ (by decide)]))
            have tkM18 : TK M18 := TK.eq tkM17 (show M18 97 12 = M17 97 12 by rw [hM18]; exact mu_ne _ _ (by first | decide | omega)) (show M18 97 13 = M17 97 13 by rw [hM18]; exact mu_ne _ _ (by first | decide | omega)) (show M18 97 14 = M17 97 14 by rw [hM18]; exact mu_ne _ _ (by first | decide | omega)) (show M18 97 15 = M17 97 15 by rw [hM18]; exact mu_ne _ _ (by first | decide | omega)) (show M18 97 16 = M17 97 16 by rw [hM18]; exact mu_ne _ _ (by first | decide | omega))
            have k0M18 : M18 107 cx.toNat = hd := vM18_0.trans k0M17
            have nmM18 : M 97 21 ≤ M18 97 21 ∧ M18 97 21 ≤ M18 97 13 ∧ M 97 13 < M18 97 13 := (by omega)
            have nclM18 : M18 97 19 = M 97 19 + 1 := (by omega)
            have k1M18 : K1 (M18 97 18) (M18 107 (cx + 1).toNat) hd := K1.nx k1M17 (by omega) vM18_1
            have k3M18 : M18 107 (cx + 3).toNat = M 97 21 := vM18_3.trans k3M17
            have k4M18 : K4 M18 (M 97 21) (M18 107 (cx + 4).toNat) := K4.nx k4M17 (by omega) (by rw [hM18, mu_cell _ _ (by decide)]) (by rw [hM18, mu_cell _ _ (by decide)]) rfl vM18_4
            have k4nM18 : M18 107 (cx + 4).toNat ≤ M18 97 21 := (by omega)
            have k2M18 : K2 (M18 97 18) (M18 107 (cx + 2).toNat) := K2.nx k2M17 (by omega) vM18_2
            have y1M18 : YV (M18 97 18) (M18 107 (cx + 1).toNat) (Y1v K W hd i lv) := YV.nx y1M17 (by omega) vM18_1
            have y4M18 : Y4 M18 (M 97 21) (M18 107 (cx + 4).toNat) (yF K W hd i lv) := Y4.nx y4M17 (by omega) (by rw [hM18, mu_cell _ _ (by decide)]) (by rw [hM18, mu_cell _ _ (by decide)]) rfl vM18_4
            have y2M18 : Y2a (M18 97 18) (M18 107 (cx + 2).toNat) hd (W (sW K W 655 (g224 K W hd i lv)).2.1) := Y2a.nx y2M17 (by omega) vM18_2
            have xM18_7 : M18 107 (cx + 7).toNat = z16 := by rw [hM18]; exact mu_at _ _ _ _
            have k7M18 : K7 (M18 97 18) (M18 107 (cx + 7).toNat) := (by unfold K7; omega)
            have y7M18 : YV (M18 97 18) (M18 107 (cx + 7).toNat) (cTv K W (g280 K W hd i lv).2.1) := (fun z => by first | exact absurd z (by omega) | exact xM18_7.trans (nvM17 (by omega)))
            have tzM18 : TZM M18 K W S E m := TZM.eq tzM17 (by rw [hM18]; exact mu_cell _ _ (by decide)) (show M18 97 12 = M17 97 12 by rw [hM18]; exact mu_ne _ _ (by first | decide | omega))
            have sgM18 : STG K W S E m M18 (sTm K W (g280 K W hd i lv)) := STG.eq sgM17 (by omega) (by omega) (by omega) (by omega) (by omega) (by omega) (by omega)
            refine g_sub [1, 2, 3] rfl ?_
            exact j_X10_readClause_z_369 X M hi htk hbad hn19 hnc hcl K W S E m i lv hz hat h24 hd cx M18 iM18 fM18 q97_12_M18 q97_10_M18 q97_44_M18 q97_33_M18 (by omega) (by omega) hds tzM18 unM18 loM18 tkM18 k0M18 (by omega) (by omega) k1M18 k3M18 k4M18 (by omega) k2M18 k7M18 y1M18 y4M18 y2M18 y7M18 sgM18
          · refine g_iconst (pc' := 359) dX10_readClause_358 rfl ?_
            refine g_goto (tgt := 368) dX10_readClause_359 rfl ?_
            refine g_iast (pc' := 369) dX10_readClause_368 rfl rfl (by omega) (by omega) (by decide) (fun M19 hM19 => ?_)
            have iM19 : IM M19 := IM.wr iM9 hM19 (by unfold okv; first | decide | omega)
            have fM19 : Fr (fun c => c = 97 ∨ (107 ≤ c ∧ c ≤ 111)) M M19 := Fr.wr fM9 hM19 (by first | decide | omega | (dsimp only; omega))
            have q97_12_M19 : (M19 97 12 = M 97 12) := (show M19 97 12 = M9 97 12 by rw [hM19]; exact mu_ne _ _ (by first | decide | omega)).trans q97_12_M9
            have q97_10_M19 : (M19 97 10 = M 97 10) := (show M19 97 10 = M9 97 10 by rw [hM19]; exact mu_ne _ _ (by first | decide | omega)).trans q97_10_M9
            have q97_44_M19 : (M19 97 44 = M 97 44) := (show M19 97 44 = M9 97 44 by rw [hM19]; exact mu_ne _ _ (by first | decide | omega)).trans q97_44_M9
            have q97_33_M19 : (M19 97 33 = M 97 33) := (show M19 97 33 = M9 97 33 by rw [hM19]; exact mu_ne _ _ (by first | decide | omega)).trans q97_33_M9
            have wM19_97_12 : M19 97 12 = M9 97 12 := by rw [hM19]; exact mu_ne _ _ (by first | decide | omega)
            have wM19_97_13 : M19 97 13 = M9 97 13 := by rw [hM19]; exact mu_ne _ _ (by first | decide | omega)
            have wM19_97_14 : M19 97 14 = M9 97 14 := by rw [hM19]; exact mu_ne _ _ (by first | decide | omega)
            have wM19_97_15 : M19 97 15 = M9 97 15 := by rw [hM19]; exact mu_ne _ _ (by first | decide | omega)
            have wM19_97_16 : M19 97 16 = M9 97 16 := by rw [hM19]; exact mu_ne _ _ (by first | decide | omega)
            have wM19_97_17 : M19 97 17 = M9 97 17 := by rw [hM19]; exact mu_ne _ _ (by first | decide | omega)
            have wM19_97_18 : M19 97 18 = M9 97 18 := by rw [hM19]; exact mu_ne _ _ (by first | decide | omega)
            have wM19_97_19 : M19 97 19 = M9 97 19 := by rw [hM19]; exact mu_ne _ _ (by first | decide | omega)
            have wM19_97_21 : M19 97 21 = M9 97 21 := by rw [hM19]; exact mu_ne _ _ (by first | decide | omega)
            have wM19_97_24 : M19 97 24 = M9 97 24 := by rw [hM19]; exact mu_ne _ _ (by first | decide | omega)
            have vM19_0 : M19 107 cx.toNat = M9 107 cx.toNat := (by rw [hM19]; exact mu_ne _ _ (by first | decide | omega))
            have vM19_1 : M19 107 (cx + 1).toNat = M9 107 (cx + 1).toNat := (by rw [hM19]; exact mu_ne _ _ (by first | decide | omega))
            have vM19_2 : M19 107 (cx + 2).toNat = M9 107 (cx + 2).toNat := (by rw [hM19]; exact mu_ne _ _ (by first | decide | omega))
            have vM19_3 : M19 107 (cx + 3).toNat = M9 107 (cx + 3).toNat := (by rw [hM19]; exact mu_ne _ _ (by first | decide | omega))
            have vM19_4 : M19 107 (cx + 4).toNat = M9 107 (cx + 4).toNat := (by rw [hM19]; exact mu_ne _ _ (by first | decide | omega))
            have unM19 : UN M M19 cx := UN.wr unM9 hM19 (by omega)
            have loM19 : LO M M19 (M 97 21) := LO.tr loM9 (LO.eq (by rw [hM19, mu_cell _ _ (by decide)]) (by rw [hM19, mu_cell _ _ (by decide)]))
            have tkM19 : TK M19 := TK.eq tkM9 (show M19 97 12 = M9 97 12 by rw [hM19]; exact mu_ne _ _ (by first | decide | omega)) (show M19 97 13 = M9 97 13 by rw [hM19]; exact mu_ne _ _ (by first | decide | omega)) (show M19 97 14 = M9 97 14 by rw [hM19]; exact mu_ne _ _ (by first | decide | omega)) (show M19 97 15 = M9 97 15 by rw [hM19]; exact mu_ne _ _ (by first | decide | omega)) (show M19 97 16 = M9 97 16 by rw [hM19]; exact mu_ne _ _ (by first | decide | omega))
            have k0M19 : M19 107 cx.toNat = hd := vM19_0.trans k0M9
            have nmM19 : M 97 21 ≤ M19 97 21 ∧ M19 97 21 ≤ M19 97 13 ∧ M 97 13 < M19 97 13 := (by omega)
            have nclM19 : M19 97 19 = M 97 19 + 1 := (by omega)
            have k1M19 : K1 (M19 97 18) (M19 107 (cx + 1).toNat) hd := K1.nx k1M9 (by omega) vM19_1
            have k3M19 : M19 107 (cx + 3).toNat = M 97 21 := vM19_3.trans k3M9
            have k4M19 : K4 M19 (M 97 21) (M19 107 (cx + 4).toNat) := K4.nx k4M9 (by omega) (by rw [hM19, mu_cell _ _ (by decide)]) (by rw [hM19, mu_cell _ _ (by decide)]) rfl vM19_4
            have k4nM19 : M19 107 (cx + 4).toNat ≤ M19 97 21 := (by omega)
            have k2M19 : K2 (M19 97 18) (M19 107 (cx + 2).toNat) := K2.nx k2M9 (by omega) vM19_2
            have y1M19 : YV (M19 97 18) (M19 107 (cx + 1).toNat) (Y1v K W hd i lv) := YV.nx y1M9 (by omega) vM19_1
            have y4M19 : Y4 M19 (M 97 21) (M19 107 (cx + 4).toNat) (yF K W hd i lv) := Y4.nx y4M9 (by omega) (by rw [hM19, mu_cell _ _ (by decide)]) (by rw [hM19, mu_cell _ _ (by decide)]) rfl vM19_4
            have y2M19 : Y2a (M19 97 18) (M19 107 (cx + 2).toNat) hd (W (sW K W 655 (g224 K W hd i lv)).2.1) := Y2a.nx y2M9 (by omega) vM19_2
            have xM19_7 : M19 107 (cx + 7).toNat = 0 := by rw [hM19]; exact mu_at _ _ _ _
            have k7M19 : K7 (M19 97 18) (M19 107 (cx + 7).toNat) := (by unfold K7; omega)
            have y7M19 : YV (M19 97 18) (M19 107 (cx + 7).toNat) (cTv K W (g280 K W hd i lv).2.1) := (fun z => by first | exact absurd z (by omega) | exact xM19_7.trans (trivial (by omega)))
            have tzM19 : TZM M19 K W S E m := TZM.eq tzM9 (by rw [hM19]; exact mu_cell _ _ (by decide)) (show M19 97 12 = M9 97 12 by rw [hM19]; exact mu_ne _ _ (by first | decide | omega))
            have sgM19 : STG K W S E m M19 (g280 K W hd i lv) := STG.eq sgM2 (by omega) (by omega) (by omega) (by omega) (by omega) (by omega) (by omega)
            refine g_sub [1, 2, 3] rfl ?_
            exact j_X10_readClause_z_369 X M hi htk hbad hn19 hnc hcl K W S E m i lv hz hat h24 hd cx M19 iM19 fM19 q97_12_M19 q97_10_M19 q97_44_M19 q97_33_M19 (by omega) (by omega) hds tzM19 unM19 loM19 tkM19 k0M19 (by omega) (by omega) k1M19 k3M19 k4M19 (by omega) k2M19 k7M19 y1M19 y4M19 y2M19 y7M19 (by exact False.elim (by omega))
        · exact absurd c12 (by omega)
      · refine g_aload_n (pc' := 320) 2 dX10_readClause_319 rfl rfl ?_
        refine g_getL (pc' := 323) dX10_readClause_320 rfl f_X10_164 rfl rfl (fun v20 ev20 rv20 => ?_)
        refine g_lconst (pc' := 324) (v := 0) dX10_readClause_323 rfl (by decide) ?_
        refine g_lc_ne (pc' := 328) (tgt := 332) rv20 (by decide) dX10_readClause_324 dX10_readClause_325 rfl rfl (fun c21 => ?_) (fun c21 => ?_)
        · refine g_iconst (pc' := 333) dX10_readClause_332 rfl ?_
          refine g_istore_n (pc' := 334) (i := 3) (L' := [(3, vi 0), (1, vi hd), (2, vi cx), (0, vr X 97)]) dX10_readClause_333 rfl rfl (by decide) rfl ?_
          refine g_iload_n (pc' := 335) 0 dX10_readClause_334 rfl rfl ?_
          refine g_if_eq (pc' := 338) (tgt := 343) (by decide) dX10_readClause_335 rfl rfl (fun c22 => ?_) (fun c22 => ?_)
          · refine g_aload_n (pc' := 344) 3 dX10_readClause_343 rfl rfl ?_
            refine g_getR (pc' := 347) dX10_readClause_344 rfl f_X10_43 rfl rfl ?_
            refine g_iload_n (pc' := 348) 2 dX10_readClause_347 rfl rfl ?_
            refine g_bipush (pc' := 350) (v := 7) dX10_readClause_348 rfl (by decide) ?_
            refine g_iadd (pc' := 351) dX10_readClause_350 rfl ?_
            refine g_aload_n (pc' := 352) 3 dX10_readClause_351 rfl rfl ?_
            refine g_getI (pc' := 355) dX10_readClause_352 rfl f_X10_154 rfl rfl (fun v23 ev23 rv23 => ?_)
            refine g_if_eq (pc' := 358) (tgt := 362) rv23 dX10_readClause_355 rfl rfl (fun c24 => ?_) (fun c24 => ?_)
            · refine g_aload_n (pc' := 363) 3 dX10_readClause_362 rfl rfl ?_
              refine g_bipush (pc' := 365) (v := 20) dX10_readClause_363 rfl (by decide) ?_
              refine g_callVi (pc' := 368) (As := [vi 20]) (b := 97) (S := [vi (cx + 7), vr X 107]) dX10_readClause_365 rfl m_X10_245 w_X10_readNumber (c_X10_readNumber_x X M9 iM9 20 (by decide) tkM9 (by omega)) rfl ⟨_, _, _, rfl, rfl, rfl⟩ (by decide) (by decide) rfl (Nat.le_of_ble_eq_true rfl) (fun z26 M27 q25 => ?_)
              obtain ⟨iM27, fM270, eM27_97_12, eM27_97_19, eM27_97_21, eM27_97_24, eM27_97_27, eM27_97_28, eM27_97_10, eM27_97_44, eM27_97_33, pM27⟩ := q25
              have fM27 : Fr (fun c => c = 97 ∨ (107 ≤ c ∧ c ≤ 111)) M M27 := Fr.tr fM9 fM270 fi_52
              have q97_12_M27 : (M27 97 12 = M 97 12) := eM27_97_12.trans q97_12_M9
              have q97_10_M27 : (M27 97 10 = M 97 10) := eM27_97_10.trans q97_10_M9
              have q97_44_M27 : (M27 97 44 = M 97 44) := eM27_97_44.trans q97_44_M9
              have q97_33_M27 : (M27 97 33 = M 97 33) := eM27_97_33.trans q97_33_M9
              have wM27_97_12 : M27 97 12 = M9 97 12 := eM27_97_12
              have wM27_97_19 : M27 97 19 = M9 97 19 := eM27_97_19
              have wM27_97_21 : M27 97 21 = M9 97 21 := eM27_97_21
              have wM27_97_24 : M27 97 24 = M9 97 24 := eM27_97_24
              have tzM27 : TZM M27 K W S E m := TZM.eq tzM9 (fM270 106 (by decide)) eM27_97_12
              obtain ⟨xxM27, pM27⟩ := pM27
              obtain ⟨aM27p, bM27p, cM27p, dM27p, kM27p⟩ := pM27
              have tkM27 : TK M27 := kM27p
              clear kM27p
              have tbM27 := tkM27.b
              have vM27_0 : M27 107 cx.toNat = M9 107 cx.toNat := (congrFun (fM270 107 (by decide)) _)
              have vM27_1 : M27 107 (cx + 1).toNat = M9 107 (cx + 1).toNat := (congrFun (fM270 107 (by decide)) _)
              have vM27_2 : M27 107 (cx + 2).toNat = M9 107 (cx + 2).toNat := (congrFun (fM270 107 (by decide)) _)
              have vM27_3 : M27 107 (cx + 3).toNat = M9 107 (cx + 3).toNat := (congrFun (fM270 107 (by decide)) _)
              have vM27_4 : M27 107 (cx + 4).toNat = M9 107 (cx + 4).toNat := (congrFun (fM270 107 (by decide)) _)
              have vM27_7 : M27 107 (cx + 7).toNat = M9 107 (cx + 7).toNat := (congrFun (fM270 107 (by decide)) _)
              have unM27 : UN M M27 cx := UN.nx unM9 (fM270 107 (by decide))
              have loM27 : LO M M27 (M 97 21) := LO.tr loM9 (LO.eq (fM270 108 (by decide)) (fM270 109 (by decide)))
              have k0M27 : M27 107 cx.toNat = hd := vM27_0.trans k0M9
              have nmM27 : M 97 21 ≤ M27 97 21 ∧ M27 97 21 ≤ M27 97 13 ∧ M 97 13 < M27 97 13 := (by omega)
              have nclM27 : M27 97 19 = M 97 19 + 1 := (by omega)
              have k1M27 : K1 (M27 97 18) (M27 107 (cx + 1).toNat) hd := K1.nx k1M9 (by omega) vM27_1
              have k3M27 : M27 107 (cx + 3).toNat = M 97 21 := vM27_3.trans k3M9
              have k4M27 : K4 M27 (M 97 21) (M27 107 (cx + 4).toNat) := K4.nx k4M9 (by omega) (fM270 108 (by decide)) (fM270 109 (by decide)) rfl vM27_4
              have k4nM27 : M27 107 (cx + 4).toNat ≤ M27 97 21 := (by omega)
              have k2M27 : K2 (M27 97 18) (M27 107 (cx + 2).toNat) := K2.nx k2M9 (by omega) vM27_2
              have y1M27 : YV (M27 97 18) (M27 107 (cx + 1).toNat) (Y1v K W hd i lv) := YV.nx y1M9 (by omega) vM27_1
              have y4M27 : Y4 M27 (M 97 21) (M27 107 (cx + 4).toNat) (yF K W hd i lv) := Y4.nx y4M9 (by omega) (fM270 108 (by decide)) (fM270 109 (by decide)) rfl vM27_4
              have y2M27 : Y2a (M27 97 18) (M27 107 (cx + 2).toNat) hd (W (sW K W 655 (g224 K W hd i lv)).2.1) := Y2a.nx y2M9 (by omega) vM27_2
              have k7M27 : K7 (M27 97 18) (M27 107 (cx + 7).toNat) := K7.nx k7M9 (by omega) vM27_7
              have nvM27 : M27 97 18 = 0 → z26 = cTv K W (g280 K W hd i lv).2.1 := by first | exact STG.tv_y tzM2 tzM9 sgM2 (by omega) (by omega) xxM9 (by omega) (by omega) xxM27 | exact False.elim (by omega)
              have sgM27 : STG K W S E m M27 (sTm K W (g280 K W hd i lv)) := (by first | exact STG.tm_1 tzM2 tzM9 sgM2 (by omega) (by omega) xxM9 (by omega) (by omega) (by omega) xxM27 (by omega) | exact False.elim (by omega))
              refine g_iast (pc' := 369) dX10_readClause_368 rfl rfl (by omega) (by omega) ⟨by omega, by omega⟩ (fun M28 hM28 => ?_)
              have iM28 : IM M28 := IM.wr iM27 hM28 (by unfold okv; first | decide | omega)
              have fM28 : Fr (fun c => c = 97 ∨ (107 ≤ c ∧ c ≤ 111)) M M28 := Fr.wr fM27 hM28 (by first | decide | omega | (dsimp only; omega))
              have q97_12_M28 : (M28 97 12 = M 97 12) := (show M28 97 12 = M27 97 12 by rw [hM28]; exact mu_ne _ _ (by first | decide | omega)).trans q97_12_M27
              have q97_10_M28 : (M28 97 10 = M 97 10) := (show M28 97 10 = M27 97 10 by rw [hM28]; exact mu_ne _ _ (by first | decide | omega)).trans q97_10_M27
              have q97_44_M28 : (M28 97 44 = M 97 44) := (show M28 97 44 = M27 97 44 by rw [hM28]; exact mu_ne _ _ (by first | decide | omega)).trans q97_44_M27
              have q97_33_M28 : (M28 97 33 = M 97 33) := (show M28 97 33 = M27 97 33 by rw [hM28]; exact mu_ne _ _ (by first | decide | omega)).trans q97_33_M27
              have wM28_97_12 : M28 97 12 = M27 97 12 := by rw [hM28]; exact mu_ne _ _ (by first | decide | omega)
              have wM28_97_13 : M28 97 13 = M27 97 13 := by rw [hM28]; exact mu_ne _ _ (by first | decide | omega)
              have wM28_97_14 : M28 97 14 = M27 97 14 := by rw [hM28]; exact mu_ne _ _ (by first | decide | omega)
              have wM28_97_15 : M28 97 15 = M27 97 15 := by rw [hM28]; exact mu_ne _ _ (by first | decide | omega)
              have wM28_97_16 : M28 97 16 = M27 97 16 := by rw [hM28]; exact mu_ne _ _ (by first | decide | omega)
              have wM28_97_17 : M28 97 17 = M27 97 17 := by rw [hM28]; exact mu_ne _ _ (by first | decide | omega)
              have wM28_97_18 : M28 97 18 = M27 97 18 := by rw [hM28]; exact mu_ne _ _ (by first | decide | omega)
              have wM28_97_19 : M28 97 19 = M27 97 19 := by rw [hM28]; exact mu_ne _ _ (by first | decide | omega)
              have wM28_97_21 : M28 97 21 = M27 97 21 := by rw [hM28]; exact mu_ne _ _ (by first | decide | omega)
              have wM28_97_24 : M28 97 24 = M27 97 24 := by rw [hM28]; exact mu_ne _ _ (by first | decide | omega)
              have vM28_0 : M28 107 cx.toNat = M27 107 cx.toNat := (by rw [hM28]; exact mu_ne _ _ (by first | decide | omega))
              have vM28_1 : M28 107 (cx + 1).toNat = M27 107 (cx + 1).toNat := (by rw [hM28]; exact mu_ne _ _ (by first | decide | omega))
              have vM28_2 : M28 107 (cx + 2).toNat = M27 107 (cx + 2).toNat := (by rw [hM28]; exact mu_ne _ _ (by first | decide | omega))
              have vM28_3 : M28 107 (cx + 3).toNat = M27 107 (cx + 3).toNat := (by rw [hM28]; exact mu_ne _ _ (by first | decide | omega))
              have vM28_4 : M28 107 (cx + 4).toNat = M27 107 (cx + 4).toNat := (by rw [hM28]; exact mu_ne _ _ (by first | decide | omega))
              have unM28 : UN M M28 cx := UN.wr unM27 hM28 (by omega)
              have loM28 : LO M M28 (M 97 21) := LO.tr loM27 (LO.eq (by rw [hM28, mu_cell _ _ (by decide)]) (by rw [hM28, mu_cell _ _ (by decide)]))
              have tkM28 : TK M28 := TK.eq tkM27 (show M28 97 12 = M27 97 12 by rw [hM28]; exact mu_ne _ _ (by first | decide | omega)) (show M28 97 13 = M27 97 13 by rw [hM28]; exact mu_ne _ _ (by first | decide | omega)) (show M28 97 14 = M27 97 14 by rw [hM28]; exact mu_ne _ _ (by first | decide | omega)) (show M28 97 15 = M27 97 15 by rw [hM28]; exact mu_ne _ _ (by first | decide | omega)) (show M28 97 16 = M27 97 16 by rw [hM28]; exact mu_ne _ _ (by first | decide | omega))
              have k0M28 : M28 107 cx.toNat = hd := vM28_0.trans k0M27
              have nmM28 : M 97 21 ≤ M28 97 21 ∧ M28 97 21 ≤ M28 97 13 ∧ M 97 13 < M28 97 13 := (by omega)
              have nclM28 : M28 97 19 = M 97 19 + 1 := (by omega)
              have k1M28 : K1 (M28 97 18) (M28 107 (cx + 1).toNat) hd := K1.nx k1M27 (by omega) vM28_1
              have k3M28 : M28 107 (cx + 3).toNat = M 97 21 := vM28_3.trans k3M27
              have k4M28 : K4 M28 (M 97 21) (M28 107 (cx + 4).toNat) := K4.nx k4M27 (by omega) (by rw [hM28, mu_cell _ _ (by decide)]) (by rw [hM28, mu_cell _ _ (by decide)]) rfl vM28_4
              have k4nM28 : M28 107 (cx + 4).toNat ≤ M28 97 21 := (by omega)
              have k2M28 : K2 (M28 97 18) (M28 107 (cx + 2).toNat) := K2.nx k2M27 (by omega) vM28_2
              have y1M28 : YV (M28 97 18) (M28 107 (cx + 1).toNat) (Y1v K W hd i lv) := YV.nx y1M27 (by omega) vM28_1
              have y4M28 : Y4 M28 (M 97 21) (M28 107 (cx + 4).toNat) (yF K W hd i lv) := Y4.nx y4M27 (by omega) (by rw [hM28, mu_cell _ _ (by decide)]) (by rw [hM28, mu_cell _ _ (by decide)]) rfl vM28_4
              have y2M28 : Y2a (M28 97 18) (M28 107 (cx + 2).toNat) hd (W (sW K W 655 (g224 K W hd i lv)).2.1) := Y2a.nx y2M27 (by omega) vM28_2
              have xM28_7 : M28 107 (cx + 7).toNat = z26 := by rw [hM28]; exact mu_at _ _ _ _
              have k7M28 : K7 (M28 97 18) (M28 107 (cx + 7).toNat) := (by unfold K7; omega)
              have y7M28 : YV (M28 97 18) (M28 107 (cx + 7).toNat) (cTv K W (g280 K W hd i lv).2.1) := (fun z => by first | exact absurd z (by omega) | exact xM28_7.trans (nvM27 (by omega)))
              have tzM28 : TZM M28 K W S E m := TZM.eq tzM27 (by rw [hM28]; exact mu_cell _ _ (by decide)) (show M28 97 12 = M27 97 12 by rw [hM28]; exact mu_ne _ _ (by first | decide | omega))
              have sgM28 : STG K W S E m M28 (sTm K W (g280 K W hd i lv)) := STG.eq sgM27 (by omega) (by omega) (by omega) (by omega) (by omega) (by omega) (by omega)
              refine g_sub [1, 2, 3] rfl ?_
              exact j_X10_readClause_z_369 X M hi htk hbad hn19 hnc hcl K W S E m i lv hz hat h24 hd cx M28 iM28 fM28 q97_12_M28 q97_10_M28 q97_44_M28 q97_33_M28 (by omega) (by omega) hds tzM28 unM28 loM28 tkM28 k0M28 (by omega) (by omega) k1M28 k3M28 k4M28 (by omega) k2M28 k7M28 y1M28 y4M28 y2M28 y7M28 sgM28
            · refine g_iconst (pc' := 359) dX10_readClause_358 rfl ?_
              refine g_goto (tgt := 368) dX10_readClause_359 rfl ?_
              refine g_iast (pc' := 369) dX10_readClause_368 rfl rfl (by omega) (by omega) (by decide) (fun M29 hM29 => ?_)
              have iM29 : IM M29 := IM.wr iM9 hM29 (by unfold okv; first | decide | omega)
              have fM29 : Fr (fun c => c = 97 ∨ (107 ≤ c ∧ c ≤ 111)) M M29 := Fr.wr fM9 hM29 (by first | decide | omega | (dsimp only; omega))
              have q97_12_M29 : (M29 97 12 = M 97 12) := (show M29 97 12 = M9 97 12 by rw [hM29]; exact mu_ne _ _ (by first | decide | omega)).trans q97_12_M9
              have q97_10_M29 : (M29 97 10 = M 97 10) := (show M29 97 10 = M9 97 10 by rw [hM29]; exact mu_ne _ _ (by first | decide | omega)).trans q97_10_M9
              have q97_44_M29 : (M29 97 44 = M 97 44) := (show M29 97 44 = M9 97 44 by rw [hM29]; exact mu_ne _ _ (by first | decide | omega)).trans q97_44_M9
              have q97_33_M29 : (M29 97 33 = M 97 33) := (show M29 97 33 = M9 97 33 by rw [hM29]; exact mu_ne _ _ (by first | decide | omega)).trans q97_33_M9
              have wM29_97_12 : M29 97 12 = M9 97 12 := by rw [hM29]; exact mu_ne _ _ (by first | decide | omega)
              have wM29_97_13 : M29 97 13 = M9 97 13 := by rw [hM29]; exact mu_ne _ _ (by first | decide | omega)
              have wM29_97_14 : M29 97 14 = M9 97 14 := by rw [hM29]; exact mu_ne _ _ (by first | decide | omega)
              have wM29_97_15 : M29 97 15 = M9 97 15 := by rw [hM29]; exact mu_ne _ _ (by first | decide | omega)
              have wM29_97_16 : M29 97 16 = M9 97 16 := by rw [hM29]; exact mu_ne _ _ (by first | decide | omega)
              have wM29_97_17 : M29 97 17 = M9 97 17 := by rw [hM29]; exact mu_ne _ _ (by first | decide | omega)
              have wM29_97_18 : M29 97 18 = M9 97 18 := by rw [hM29]; exact mu_ne _ _ (by first | decide | omega)
              have wM29_97_19 : M29 97 19 = M9 97 19 := by rw [hM29]; exact mu_ne _ _ (by first | decide | omega)
              have wM29_97_21 : M29 97 21 = M9 97 21 := by rw [hM29]; exact mu_ne _ _ (by first | decide | omega)
              have wM29_97_24 : M29 97 24 = M9 97 24 := by rw [hM29]; exact mu_ne _ _ (by first | decide | omega)
              have vM29_0 : M29 107 cx.toNat = M9 107 cx.toNat := (by rw [hM29]; exact mu_ne _ _ (by first | decide | omega))
              have vM29_1 : M29 107 (cx + 1).toNat = M9 107 (cx + 1).toNat := (by rw [hM29]; exact mu_ne _ _ (by first | decide | omega))
              have vM29_2 : M29 107 (cx + 2).toNat = M9 107 (cx + 2).toNat := (by rw [hM29]; exact mu_ne _ _ (by first | decide | omega))
              have vM29_3 : M29 107 (cx + 3).toNat = M9 107 (cx + 3).toNat := (by rw [hM29]; exact mu_ne _ _ (by first | decide | omega))
              have vM29_4 : M29 107 (cx + 4).toNat = M9 107 (cx + 4).toNat := (by rw [hM29]; exact mu_ne _ _ (by first | decide | omega))
              have unM29 : UN M M29 cx := UN.wr unM9 hM29 (by omega)
              have loM29 : LO M M29 (M 97 21) := LO.tr loM9 (LO.eq (by rw [hM29, mu_cell _ _ (by decide)]) (by rw [hM29, mu_cell _ _ (by decide)]))
              have tkM29 : TK M29 := TK.eq tkM9 (show M29 97 12 = M9 97 12 by rw [hM29]; exact mu_ne _ _ (by first | decide | omega)) (show M29 97 13 = M9 97 13 by rw [hM29]; exact mu_ne _ _ (by first | decide | omega)) (show M29 97 14 = M9 97 14 by rw [hM29]; exact mu_ne _ _ (by first | decide | omega)) (show M29 97 15 = M9 97 15 by rw [hM29]; exact mu_ne _ _ (by first | decide | omega)) (show M29 97 16 = M9 97 16 by rw [hM29]; exact mu_ne _ _ (by first | decide | omega))
              have k0M29 : M29 107 cx.toNat = hd := vM29_0.trans k0M9
              have nmM29 : M 97 21 ≤ M29 97 21 ∧ M29 97 21 ≤ M29 97 13 ∧ M 97 13 < M29 97 13 := (by omega)
              have nclM29 : M29 97 19 = M 97 19 + 1 := (by omega)
              have k1M29 : K1 (M29 97 18) (M29 107 (cx + 1).toNat) hd := K1.nx k1M9 (by omega) vM29_1
              have k3M29 : M29 107 (cx + 3).toNat = M 97 21 := vM29_3.trans k3M9
              have k4M29 : K4 M29 (M 97 21) (M29 107 (cx + 4).toNat) := K4.nx k4M9 (by omega) (by rw [hM29, mu_cell _ _ (by decide)]) (by rw [hM29, mu_cell _ _ (by decide)]) rfl vM29_4
              have k4nM29 : M29 107 (cx + 4).toNat ≤ M29 97 21 := (by omega)
              have k2M29 : K2 (M29 97 18) (M29 107 (cx + 2).toNat) := K2.nx k2M9 (by omega) vM29_2
              have y1M29 : YV (M29 97 18) (M29 107 (cx + 1).toNat) (Y1v K W hd i lv) := YV.nx y1M9 (by omega) vM29_1
              have y4M29 : Y4 M29 (M 97 21) (M29 107 (cx + 4).toNat) (yF K W hd i lv) := Y4.nx y4M9 (by omega) (by rw [hM29, mu_cell _ _ (by decide)]) (by rw [hM29, mu_cell _ _ (by decide)]) rfl vM29_4
              have y2M29 : Y2a (M29 97 18) (M29 107 (cx + 2).toNat) hd (W (sW K W 655 (g224 K W hd i lv)).2.1) := Y2a.nx y2M9 (by omega) vM29_2
              have xM29_7 : M29 107 (cx + 7).toNat = 0 := by rw [hM29]; exact mu_at _ _ _ _
              have k7M29 : K7 (M29 97 18) (M29 107 (cx + 7).toNat) := (by unfold K7; omega)
              have y7M29 : YV (M29 97 18) (M29 107 (cx + 7).toNat) (cTv K W (g280 K W hd i lv).2.1) := (fun z => by first | exact absurd z (by omega) | exact xM29_7.trans (trivial (by omega)))
              have tzM29 : TZM M29 K W S E m := TZM.eq tzM9 (by rw [hM29]; exact mu_cell _ _ (by decide)) (show M29 97 12 = M9 97 12 by rw [hM29]; exact mu_ne _ _ (by first | decide | omega))
              have sgM29 : STG K W S E m M29 (g280 K W hd i lv) := STG.eq sgM2 (by omega) (by omega) (by omega) (by omega) (by omega) (by omega) (by omega)
              refine g_sub [1, 2, 3] rfl ?_
              exact j_X10_readClause_z_369 X M hi htk hbad hn19 hnc hcl K W S E m i lv hz hat h24 hd cx M29 iM29 fM29 q97_12_M29 q97_10_M29 q97_44_M29 q97_33_M29 (by omega) (by omega) hds tzM29 unM29 loM29 tkM29 k0M29 (by omega) (by omega) k1M29 k3M29 k4M29 (by omega) k2M29 k7M29 y1M29 y4M29 y2M29 y7M29 (by exact False.elim (by omega))
          · exact absurd c22 (by omega)
        · refine g_iconst (pc' := 329) dX10_readClause_328 rfl ?_
          refine g_goto (tgt := 333) dX10_readClause_329 rfl ?_
          refine g_istore_n (pc' := 334) (i := 3) (L' := [(3, vi 1), (1, vi hd), (2, vi cx), (0, vr X 97)]) dX10_readClause_333 rfl rfl (by decide) rfl ?_
          refine g_iload_n (pc' := 335) 0 dX10_readClause_334 rfl rfl ?_
          refine g_if_eq (pc' := 338) (tgt := 343) (by decide) dX10_readClause_335 rfl rfl (fun c30 => ?_) (fun c30 => ?_)
          · exact absurd c30 (by omega)
          · refine g_aload_n (pc' := 339) 3 dX10_readClause_338 rfl rfl ?_
            refine g_iconst (pc' := 340) dX10_readClause_339 rfl ?_
            refine g_callVv (pc' := 343) (As := [vi 0]) (b := 97) (S := []) dX10_readClause_340 rfl m_X10_187 w_X10_must (c_X10_must_x X M9 iM9 0 (by decide) tkM9) rfl ⟨_, _, _, rfl, rfl, rfl⟩ (by decide) (by decide) rfl (Nat.le_of_ble_eq_true rfl) (fun M32 q31 => ?_)
            obtain ⟨iM32, fM320, eM32_97_12, eM32_97_19, eM32_97_21, eM32_97_24, eM32_97_27, eM32_97_28, eM32_97_10, eM32_97_44, eM32_97_33, pM32⟩ := q31
            have fM32 : Fr (fun c => c = 97 ∨ (107 ≤ c ∧ c ≤ 111)) M M32 := Fr.tr fM9 fM320 fi_52
            have q97_12_M32 : (M32 97 12 = M 97 12) := eM32_97_12.trans q97_12_M9
            have q97_10_M32 : (M32 97 10 = M 97 10) := eM32_97_10.trans q97_10_M9
            have q97_44_M32 : (M32 97 44 = M 97 44) := eM32_97_44.trans q97_44_M9
            have q97_33_M32 : (M32 97 33 = M 97 33) := eM32_97_33.trans q97_33_M9
            have wM32_97_12 : M32 97 12 = M9 97 12 := eM32_97_12
            have wM32_97_19 : M32 97 19 = M9 97 19 := eM32_97_19
            have wM32_97_21 : M32 97 21 = M9 97 21 := eM32_97_21
            have wM32_97_24 : M32 97 24 = M9 97 24 := eM32_97_24
            have tzM32 : TZM M32 K W S E m := TZM.eq tzM9 (fM320 106 (by decide)) eM32_97_12
            obtain ⟨xxM32, pM32⟩ := pM32
            obtain ⟨aM32p, bM32p, cM32p, kM32p⟩ := pM32
            have tkM32 : TK M32 := kM32p
            clear kM32p
            have tbM32 := tkM32.b
            have vM32_0 : M32 107 cx.toNat = M9 107 cx.toNat := (congrFun (fM320 107 (by decide)) _)
            have vM32_1 : M32 107 (cx + 1).toNat = M9 107 (cx + 1).toNat := (congrFun (fM320 107 (by decide)) _)
            have vM32_2 : M32 107 (cx + 2).toNat = M9 107 (cx + 2).toNat := (congrFun (fM320 107 (by decide)) _)
            have vM32_3 : M32 107 (cx + 3).toNat = M9 107 (cx + 3).toNat := (congrFun (fM320 107 (by decide)) _)
            have vM32_4 : M32 107 (cx + 4).toNat = M9 107 (cx + 4).toNat := (congrFun (fM320 107 (by decide)) _)
            have vM32_7 : M32 107 (cx + 7).toNat = M9 107 (cx + 7).toNat := (congrFun (fM320 107 (by decide)) _)
            have unM32 : UN M M32 cx := UN.nx unM9 (fM320 107 (by decide))
            have loM32 : LO M M32 (M 97 21) := LO.tr loM9 (LO.eq (fM320 108 (by decide)) (fM320 109 (by decide)))
            have k0M32 : M32 107 cx.toNat = hd := vM32_0.trans k0M9
            have nmM32 : M 97 21 ≤ M32 97 21 ∧ M32 97 21 ≤ M32 97 13 ∧ M 97 13 < M32 97 13 := (by omega)
            have nclM32 : M32 97 19 = M 97 19 + 1 := (by omega)
            have k1M32 : K1 (M32 97 18) (M32 107 (cx + 1).toNat) hd := K1.nx k1M9 (by omega) vM32_1
            have k3M32 : M32 107 (cx + 3).toNat = M 97 21 := vM32_3.trans k3M9
            have k4M32 : K4 M32 (M 97 21) (M32 107 (cx + 4).toNat) := K4.nx k4M9 (by omega) (fM320 108 (by decide)) (fM320 109 (by decide)) rfl vM32_4
            have k4nM32 : M32 107 (cx + 4).toNat ≤ M32 97 21 := (by omega)
            have k2M32 : K2 (M32 97 18) (M32 107 (cx + 2).toNat) := K2.nx k2M9 (by omega) vM32_2
            have y1M32 : YV (M32 97 18) (M32 107 (cx + 1).toNat) (Y1v K W hd i lv) := YV.nx y1M9 (by omega) vM32_1
            have y4M32 : Y4 M32 (M 97 21) (M32 107 (cx + 4).toNat) (yF K W hd i lv) := Y4.nx y4M9 (by omega) (fM320 108 (by decide)) (fM320 109 (by decide)) rfl vM32_4
            have y2M32 : Y2a (M32 97 18) (M32 107 (cx + 2).toNat) hd (W (sW K W 655 (g224 K W hd i lv)).2.1) := Y2a.nx y2M9 (by omega) vM32_2
            have k7M32 : K7 (M32 97 18) (M32 107 (cx + 7).toNat) := K7.nx k7M9 (by omega) vM32_7
            have sgM32 : STG K W S E m M32 (sTm K W (g280 K W hd i lv)) := (by first | exact STG.tm_0 tzM2 tzM9 sgM2 (by omega) (by omega) xxM9 (by omega) (by omega) (by omega) xxM32 | exact False.elim (by omega))
            refine g_aload_n (pc' := 344) 3 dX10_readClause_343 rfl rfl ?_
            refine g_getR (pc' := 347) dX10_readClause_344 rfl f_X10_43 rfl rfl ?_
            refine g_iload_n (pc' := 348) 2 dX10_readClause_347 rfl rfl ?_
            refine g_bipush (pc' := 350) (v := 7) dX10_readClause_348 rfl (by decide) ?_
            refine g_iadd (pc' := 351) dX10_readClause_350 rfl ?_
            refine g_aload_n (pc' := 352) 3 dX10_readClause_351 rfl rfl ?_
            refine g_getI (pc' := 355) dX10_readClause_352 rfl f_X10_154 rfl rfl (fun v33 ev33 rv33 => ?_)
            refine g_if_eq (pc' := 358) (tgt := 362) rv33 dX10_readClause_355 rfl rfl (fun c34 => ?_) (fun c34 => ?_)
            · refine g_aload_n (pc' := 363) 3 dX10_readClause_362 rfl rfl ?_
              refine g_bipush (pc' := 365) (v := 20) dX10_readClause_363 rfl (by decide) ?_
              refine g_callVi (pc' := 368) (As := [vi 20]) (b := 97) (S := [vi (cx + 7), vr X 107]) dX10_readClause_365 rfl m_X10_245 w_X10_readNumber (c_X10_readNumber_x X M32 iM32 20 (by decide) tkM32 (by omega)) rfl ⟨_, _, _, rfl, rfl, rfl⟩ (by decide) (by decide) rfl (Nat.le_of_ble_eq_true rfl) (fun z36 M37 q35 => ?_)
              obtain ⟨iM37, fM370, eM37_97_12, eM37_97_19, eM37_97_21, eM37_97_24, eM37_97_27, eM37_97_28, eM37_97_10, eM37_97_44, eM37_97_33, pM37⟩ := q35
              have fM37 : Fr (fun c => c = 97 ∨ (107 ≤ c ∧ c ≤ 111)) M M37 := Fr.tr fM32 fM370 fi_52
              have q97_12_M37 : (M37 97 12 = M 97 12) := eM37_97_12.trans q97_12_M32
              have q97_10_M37 : (M37 97 10 = M 97 10) := eM37_97_10.trans q97_10_M32
              have q97_44_M37 : (M37 97 44 = M 97 44) := eM37_97_44.trans q97_44_M32
              have q97_33_M37 : (M37 97 33 = M 97 33) := eM37_97_33.trans q97_33_M32
              have wM37_97_12 : M37 97 12 = M32 97 12 := eM37_97_12
              have wM37_97_19 : M37 97 19 = M32 97 19 := eM37_97_19
              have wM37_97_21 : M37 97 21 = M32 97 21 := eM37_97_21
              have wM37_97_24 : M37 97 24 = M32 97 24 := eM37_97_24
              have tzM37 : TZM M37 K W S E m := TZM.eq tzM32 (fM370 106 (by decide)) eM37_97_12
              obtain ⟨xxM37, pM37⟩ := pM37
              obtain ⟨aM37p, bM37p, cM37p, dM37p, kM37p⟩ := pM37
              have tkM37 : TK M37 := kM37p
              clear kM37p
              have tbM37 := tkM37.b
              have vM37_0 : M37 107 cx.toNat = M32 107 cx.toNat := (congrFun (fM370 107 (by decide)) _)
              have vM37_1 : M37 107 (cx + 1).toNat = M32 107 (cx + 1).toNat := (congrFun (fM370 107 (by decide)) _)
              have vM37_2 : M37 107 (cx + 2).toNat = M32 107 (cx + 2).toNat := (congrFun (fM370 107 (by decide)) _)
              have vM37_3 : M37 107 (cx + 3).toNat = M32 107 (cx + 3).toNat := (congrFun (fM370 107 (by decide)) _)
              have vM37_4 : M37 107 (cx + 4).toNat = M32 107 (cx + 4).toNat := (congrFun (fM370 107 (by decide)) _)
              have vM37_7 : M37 107 (cx + 7).toNat = M32 107 (cx + 7).toNat := (congrFun (fM370 107 (by decide)) _)
              have unM37 : UN M M37 cx := UN.nx unM32 (fM370 107 (by decide))
              have loM37 : LO M M37 (M 97 21) := LO.tr loM32 (LO.eq (fM370 108 (by decide)) (fM370 109 (by decide)))
              have k0M37 : M37 107 cx.toNat = hd := vM37_0.trans k0M32
              have nmM37 : M 97 21 ≤ M37 97 21 ∧ M37 97 21 ≤ M37 97 13 ∧ M 97 13 < M37 97 13 := (by omega)
              have nclM37 : M37 97 19 = M 97 19 + 1 := (by omega)
              have k1M37 : K1 (M37 97 18) (M37 107 (cx + 1).toNat) hd := K1.nx k1M32 (by omega) vM37_1
              have k3M37 : M37 107 (cx + 3).toNat = M 97 21 := vM37_3.trans k3M32
              have k4M37 : K4 M37 (M 97 21) (M37 107 (cx + 4).toNat) := K4.nx k4M32 (by omega) (fM370 108 (by decide)) (fM370 109 (by decide)) rfl vM37_4
              have k4nM37 : M37 107 (cx + 4).toNat ≤ M37 97 21 := (by omega)
              have k2M37 : K2 (M37 97 18) (M37 107 (cx + 2).toNat) := K2.nx k2M32 (by omega) vM37_2
              have y1M37 : YV (M37 97 18) (M37 107 (cx + 1).toNat) (Y1v K W hd i lv) := YV.nx y1M32 (by omega) vM37_1
              have y4M37 : Y4 M37 (M 97 21) (M37 107 (cx + 4).toNat) (yF K W hd i lv) := Y4.nx y4M32 (by omega) (fM370 108 (by decide)) (fM370 109 (by decide)) rfl vM37_4
              have y2M37 : Y2a (M37 97 18) (M37 107 (cx + 2).toNat) hd (W (sW K W 655 (g224 K W hd i lv)).2.1) := Y2a.nx y2M32 (by omega) vM37_2
              have k7M37 : K7 (M37 97 18) (M37 107 (cx + 7).toNat) := K7.nx k7M32 (by omega) vM37_7
              have nvM37 : M37 97 18 = 0 → z36 = cTv K W (g280 K W hd i lv).2.1 := by first | exact STG.tv_y tzM2 tzM32 sgM2 (by omega) (by omega) xxM9 (by omega) (by omega) xxM37 | exact False.elim (by omega)
              have sgM37 : STG K W S E m M37 (sTm K W (g280 K W hd i lv)) := (by first | exact STG.tm_1 tzM2 tzM32 sgM2 (by omega) (by omega) xxM9 (by omega) (by omega) (by omega) xxM37 (by omega) | exact False.elim (by omega))
              refine g_iast (pc' := 369) dX10_readClause_368 rfl rfl (by omega) (by omega) ⟨by omega, by omega⟩ (fun M38 hM38 => ?_)
              have iM38 : IM M38 := IM.wr iM37 hM38 (by unfold okv; first | decide | omega)
              have fM38 : Fr (fun c => c = 97 ∨ (107 ≤ c ∧ c ≤ 111)) M M38 := Fr.wr fM37 hM38 (by first | decide | omega | (dsimp only; omega))
              have q97_12_M38 : (M38 97 12 = M 97 12) := (show M38 97 12 = M37 97 12 by rw [hM38]; exact mu_ne _ _ (by first | decide | omega)).trans q97_12_M37
              have q97_10_M38 : (M38 97 10 = M 97 10) := (show M38 97 10 = M37 97 10 by rw [hM38]; exact mu_ne _ _ (by first | decide | omega)).trans q97_10_M37
              have q97_44_M38 : (M38 97 44 = M 97 44) := (show M38 97 44 = M37 97 44 by rw [hM38]; exact mu_ne _ _ (by first | decide | omega)).trans q97_44_M37
              have q97_33_M38 : (M38 97 33 = M 97 33) := (show M38 97 33 = M37 97 33 by rw [hM38]; exact mu_ne _ _ (by first | decide | omega)).trans q97_33_M37
              have wM38_97_12 : M38 97 12 = M37 97 12 := by rw [hM38]; exact mu_ne _ _ (by first | decide | omega)
              have wM38_97_13 : M38 97 13 = M37 97 13 := by rw [hM38]; exact mu_ne _ _ (by first | decide | omega)
              have wM38_97_14 : M38 97 14 = M37 97 14 := by rw [hM38]; exact mu_ne _ _ (by first | decide | omega)
              have wM38_97_15 : M38 97 15 = M37 97 15 := by rw [hM38]; exact mu_ne _ _ (by first | decide | omega)
              have wM38_97_16 : M38 97 16 = M37 97 16 := by rw [hM38]; exact mu_ne _ _ (by first | decide | omega)
              have wM38_97_17 : M38 97 17 = M37 97 17 := by rw [hM38]; exact mu_ne _ _ (by first | decide | omega)
              have wM38_97_18 : M38 97 18 = M37 97 18 := by rw [hM38]; exact mu_ne _ _ (by first | decide | omega)
              have wM38_97_19 : M38 97 19 = M37 97 19 := by rw [hM38]; exact mu_ne _ _ (by first | decide | omega)
              have wM38_97_21 : M38 97 21 = M37 97 21 := by rw [hM38]; exact mu_ne _ _ (by first | decide | omega)
              have wM38_97_24 : M38 97 24 = M37 97 24 := by rw [hM38]; exact mu_ne _ _ (by first | decide | omega)
              have vM38_0 : M38 107 cx.toNat = M37 107 cx.toNat := (by rw [hM38]; exact mu_ne _ _ (by first | decide | omega))
              have vM38_1 : M38 107 (cx + 1).toNat = M37 107 (cx + 1).toNat := (by rw [hM38]; exact mu_ne _ _ (by first | decide | omega))
              have vM38_2 : M38 107 (cx + 2).toNat = M37 107 (cx + 2).toNat := (by rw [hM38]; exact mu_ne _ _ (by first | decide | omega))
              have vM38_3 : M38 107 (cx + 3).toNat = M37 107 (cx + 3).toNat := (by rw [hM38]; exact mu_ne _ _ (by first | decide | omega))
              have vM38_4 : M38 107 (cx + 4).toNat = M37 107 (cx + 4).toNat := (by rw [hM38]; exact mu_ne _ _ (by first | decide | omega))
              have unM38 : UN M M38 cx := UN.wr unM37 hM38 (by omega)
              have loM38 : LO M M38 (M 97 21) := LO.tr loM37 (LO.eq (by rw [hM38, mu_cell _ _ (by decide)]) (by rw [hM38, mu_cell _ _ (by decide)]))
              have tkM38 : TK M38 := TK.eq tkM37 (show M38 97 12 = M37 97 12 by rw [hM38]; exact mu_ne _ _ (by first | decide | omega)) (show M38 97 13 = M37 97 13 by rw [hM38]; exact mu_ne _ _ (by first | decide | omega)) (show M38 97 14 = M37 97 14 by rw [hM38]; exact mu_ne _ _ (by first | decide | omega)) (show M38 97 15 = M37 97 15 by rw [hM38]; exact mu_ne _ _ (by first | decide | omega)) (show M38 97 16 = M37 97 16 by rw [hM38]; exact mu_ne _ _ (by first | decide | omega))
              have k0M38 : M38 107 cx.toNat = hd := vM38_0.trans k0M37
              have nmM38 : M 97 21 ≤ M38 97 21 ∧ M38 97 21 ≤ M38 97 13 ∧ M 97 13 < M38 97 13 := (by omega)
              have nclM38 : M38 97 19 = M 97 19 + 1 := (by omega)
              have k1M38 : K1 (M38 97 18) (M38 107 (cx + 1).toNat) hd := K1.nx k1M37 (by omega) vM38_1
              have k3M38 : M38 107 (cx + 3).toNat = M 97 21 := vM38_3.trans k3M37
              have k4M38 : K4 M38 (M 97 21) (M38 107 (cx + 4).toNat) := K4.nx k4M37 (by omega) (by rw [hM38, mu_cell _ _ (by decide)]) (by rw [hM38, mu_cell _ _ (by decide)]) rfl vM38_4
              have k4nM38 : M38 107 (cx + 4).toNat ≤ M38 97 21 := (by omega)
              have k2M38 : K2 (M38 97 18) (M38 107 (cx + 2).toNat) := K2.nx k2M37 (by omega) vM38_2
              have y1M38 : YV (M38 97 18) (M38 107 (cx + 1).toNat) (Y1v K W hd i lv) := YV.nx y1M37 (by omega) vM38_1
              have y4M38 : Y4 M38 (M 97 21) (M38 107 (cx + 4).toNat) (yF K W hd i lv) := Y4.nx y4M37 (by omega) (by rw [hM38, mu_cell _ _ (by decide)]) (by rw [hM38, mu_cell _ _ (by decide)]) rfl vM38_4
              have y2M38 : Y2a (M38 97 18) (M38 107 (cx + 2).toNat) hd (W (sW K W 655 (g224 K W hd i lv)).2.1) := Y2a.nx y2M37 (by omega) vM38_2
              have xM38_7 : M38 107 (cx + 7).toNat = z36 := by rw [hM38]; exact mu_at _ _ _ _
              have k7M38 : K7 (M38 97 18) (M38 107 (cx + 7).toNat) := (by unfold K7; omega)
              have y7M38 : YV (M38 97 18) (M38 107 (cx + 7).toNat) (cTv K W (g280 K W hd i lv).2.1) := (fun z => by first | exact absurd z (by omega) | exact xM38_7.trans (nvM37 (by omega)))
              have tzM38 : TZM M38 K W S E m := TZM.eq tzM37 (by rw [hM38]; exact mu_cell _ _ (by decide)) (show M38 97 12 = M37 97 12 by rw [hM38]; exact mu_ne _ _ (by first | decide | omega))
              have sgM38 : STG K W S E m M38 (sTm K W (g280 K W hd i lv)) := STG.eq sgM37 (by omega) (by omega) (by omega) (by omega) (by omega) (by omega) (by omega)
              refine g_sub [1, 2, 3] rfl ?_
              exact j_X10_readClause_z_369 X M hi htk hbad hn19 hnc hcl K W S E m i lv hz hat h24 hd cx M38 iM38 fM38 q97_12_M38 q97_10_M38 q97_44_M38 q97_33_M38 (by omega) (by omega) hds tzM38 unM38 loM38 tkM38 k0M38 (by omega) (by omega) k1M38 k3M38 k4M38 (by omega) k2M38 k7M38 y1M38 y4M38 y2M38 y7M38 sgM38
            · refine g_iconst (pc' := 359) dX10_readClause_358 rfl ?_
              refine g_goto (tgt := 368) dX10_readClause_359 rfl ?_
              refine g_iast (pc' := 369) dX10_readClause_368 rfl rfl (by omega) (by omega) (by decide) (fun M39 hM39 => ?_)
              have iM39 : IM M39 := IM.wr iM32 hM39 (by unfold okv; first | decide | omega)
              have fM39 : Fr (fun c => c = 97 ∨ (107 ≤ c ∧ c ≤ 111)) M M39 := Fr.wr fM32 hM39 (by first | decide | omega | (dsimp only; omega))
              have q97_12_M39 : (M39 97 12 = M 97 12) := (show M39 97 12 = M32 97 12 by rw [hM39]; exact mu_ne _ _ (by first | decide | omega)).trans q97_12_M32
              have q97_10_M39 : (M39 97 10 = M 97 10) := (show M39 97 10 = M32 97 10 by rw [hM39]; exact mu_ne _ _ (by first | decide | omega)).trans q97_10_M32
              have q97_44_M39 : (M39 97 44 = M 97 44) := (show M39 97 44 = M32 97 44 by rw [hM39]; exact mu_ne _ _ (by first | decide | omega)).trans q97_44_M32
              have q97_33_M39 : (M39 97 33 = M 97 33) := (show M39 97 33 = M32 97 33 by rw [hM39]; exact mu_ne _ _ (by first | decide | omega)).trans q97_33_M32
              have wM39_97_12 : M39 97 12 = M32 97 12 := by rw [hM39]; exact mu_ne _ _ (by first | decide | omega)
              have wM39_97_13 : M39 97 13 = M32 97 13 := by rw [hM39]; exact mu_ne _ _ (by first | decide | omega)
              have wM39_97_14 : M39 97 14 = M32 97 14 := by rw [hM39]; exact mu_ne _ _ (by first | decide | omega)
              have wM39_97_15 : M39 97 15 = M32 97 15 := by rw [hM39]; exact mu_ne _ _ (by first | decide | omega)
              have wM39_97_16 : M39 97 16 = M32 97 16 := by rw [hM39]; exact mu_ne _ _ (by first | decide | omega)
              have wM39_97_17 : M39 97 17 = M32 97 17 := by rw [hM39]; exact mu_ne _ _ (by first | decide | omega)
              have wM39_97_18 : M39 97 18 = M32 97 18 := by rw [hM39]; exact mu_ne _ _ (by first | decide | omega)
              have wM39_97_19 : M39 97 19 = M32 97 19 := by rw [hM39]; exact mu_ne _ _ (by first | decide | omega)
              have wM39_97_21 : M39 97 21 = M32 97 21 := by rw [hM39]; exact mu_ne _ _ (by first | decide | omega)
              have wM39_97_24 : M39 97 24 = M32 97 24 := by rw [hM39]; exact mu_ne _ _ (by first | decide | omega)
              have vM39_0 : M39 107 cx.toNat = M32 107 cx.toNat := (by rw [hM39]; exact mu_ne _ _ (by first | decide | omega))
              have vM39_1 : M39 107 (cx + 1).toNat = M32 107 (cx + 1).toNat := (by rw [hM39]; exact mu_ne _ _ (by first | decide | omega))
              have vM39_2 : M39 107 (cx + 2).toNat = M32 107 (cx + 2).toNat := (by rw [hM39]; exact mu_ne _ _ (by first | decide | omega))
              have vM39_3 : M39 107 (cx + 3).toNat = M32 107 (cx + 3).toNat := (by rw [hM39]; exact mu_ne _ _ (by first | decide | omega))
              have vM39_4 : M39 107 (cx + 4).toNat = M32 107 (cx + 4).toNat := (by rw [hM39]; exact mu_ne _ _ (by first | decide | omega))
              have unM39 : UN M M39 cx := UN.wr unM32 hM39 (by omega)
              have loM39 : LO M M39 (M 97 21) := LO.tr loM32 (LO.eq (by rw [hM39, mu_cell _ _ (by decide)]) (by rw [hM39, mu_cell _ _ (by decide)]))
              have tkM39 : TK M39 := TK.eq tkM32 (show M39 97 12 = M32 97 12 by rw [hM39]; exact mu_ne _ _ (by first | decide | omega)) (show M39 97 13 = M32 97 13 by rw [hM39]; exact mu_ne _ _ (by first | decide | omega)) (show M39 97 14 = M32 97 14 by rw [hM39]; exact mu_ne _ _ (by first | decide | omega)) (show M39 97 15 = M32 97 15 by rw [hM39]; exact mu_ne _ _ (by first | decide | omega)) (show M39 97 16 = M32 97 16 by rw [hM39]; exact mu_ne _ _ (by first | decide | omega))
              have k0M39 : M39 107 cx.toNat = hd := vM39_0.trans k0M32
              have nmM39 : M 97 21 ≤ M39 97 21 ∧ M39 97 21 ≤ M39 97 13 ∧ M 97 13 < M39 97 13 := (by omega)
              have nclM39 : M39 97 19 = M 97 19 + 1 := (by omega)
              have k1M39 : K1 (M39 97 18) (M39 107 (cx + 1).toNat) hd := K1.nx k1M32 (by omega) vM39_1
              have k3M39 : M39 107 (cx + 3).toNat = M 97 21 := vM39_3.trans k3M32
              have k4M39 : K4 M39 (M 97 21) (M39 107 (cx + 4).toNat) := K4.nx k4M32 (by omega) (by rw [hM39, mu_cell _ _ (by decide)]) (by rw [hM39, mu_cell _ _ (by decide)]) rfl vM39_4
              have k4nM39 : M39 107 (cx + 4).toNat ≤ M39 97 21 := (by omega)
              have k2M39 : K2 (M39 97 18) (M39 107 (cx + 2).toNat) := K2.nx k2M32 (by omega) vM39_2
              have y1M39 : YV (M39 97 18) (M39 107 (cx + 1).toNat) (Y1v K W hd i lv) := YV.nx y1M32 (by omega) vM39_1
              have y4M39 : Y4 M39 (M 97 21) (M39 107 (cx + 4).toNat) (yF K W hd i lv) := Y4.nx y4M32 (by omega) (by rw [hM39, mu_cell _ _ (by decide)]) (by rw [hM39, mu_cell _ _ (by decide)]) rfl vM39_4
              have y2M39 : Y2a (M39 97 18) (M39 107 (cx + 2).toNat) hd (W (sW K W 655 (g224 K W hd i lv)).2.1) := Y2a.nx y2M32 (by omega) vM39_2
              have xM39_7 : M39 107 (cx + 7).toNat = 0 := by rw [hM39]; exact mu_at _ _ _ _
              have k7M39 : K7 (M39 97 18) (M39 107 (cx + 7).toNat) := (by unfold K7; omega)
              have y7M39 : YV (M39 97 18) (M39 107 (cx + 7).toNat) (cTv K W (g280 K W hd i lv).2.1) := (fun z => by first | exact absurd z (by omega) | exact xM39_7.trans (trivial (by omega)))
              have tzM39 : TZM M39 K W S E m := TZM.eq tzM32 (by rw [hM39]; exact mu_cell _ _ (by decide)) (show M39 97 12 = M32 97 12 by rw [hM39]; exact mu_ne _ _ (by first | decide | omega))
              have sgM39 : STG K W S E m M39 (sTm K W (g280 K W hd i lv)) := STG.eq sgM32 (by omega) (by omega) (by omega) (by omega) (by omega) (by omega) (by omega)
              refine g_sub [1, 2, 3] rfl ?_
              exact j_X10_readClause_z_369 X M hi htk hbad hn19 hnc hcl K W S E m i lv hz hat h24 hd cx M39 iM39 fM39 q97_12_M39 q97_10_M39 q97_44_M39 q97_33_M39 (by omega) (by omega) hds tzM39 unM39 loM39 tkM39 k0M39 (by omega) (by omega) k1M39 k3M39 k4M39 (by omega) k2M39 k7M39 y1M39 y4M39 y2M39 y7M39 sgM39
set_option maxHeartbeats 4000000 in
set_option maxRecDepth 100000 in
theorem j_X10_readClause_z_224 (X : Cx) (M : Mm) (hi : IM M) (htk : TK M) (hbad : M 97 18 = 0) (hn19 : 0 ≤ M 97 19 ∧ M 97 19 ≤ 12) (hnc : 0 ≤ M 97 21 ∧ M 97 21 ≤ M 97 13) (hcl : CLS M) (K W S E : Nat → Int) (m i : Nat) (lv : Int) (hz : TZM M K W S E m) (hat : AT K W S E m M i) (h24 : M 97 24 = lv) (hd : Int) (cx : Int) (M1 : Mm) (ic1 : IM M1) (fr1 : Fr (fun c => c = 97 ∨ (107 ≤ c ∧ c ≤ 111)) M M1) (q97_12 : (M1 97 12 = M 97 12)) (q97_10 : (M1 97 10 = M 97 10)) (q97_44 : (M1 97 44 = M 97 44)) (q97_33 : (M1 97 33 = M 97 33)) (hhd : 0 ≤ hd ∧ hd ≤ 2) (hcx : cx = 8 * M 97 19 ∧ M 97 19 < 12) (hds : HDs K W i hd) (tz1 : TZM M1 K W S E m) (un1 : UN M M1 cx) (lo1 : LO M M1 (M 97 21)) (tk1 : TK M1) (k01 : M1 107 cx.toNat = hd) (nm1 : M 97 21 ≤ M1 97 21 ∧ M1 97 21 ≤ M1 97 13 ∧ M 97 13 < M1 97 13) (ncl1 : M1 97 19 = M 97 19 + 1) (k11 : K1 (M1 97 18) (M1 107 (cx + 1).toNat) hd) (k31 : M1 107 (cx + 3).toNat = M 97 21) (k41 : K4 M1 (M 97 21) (M1 107 (cx + 4).toNat)) (k4n1 : M1 107 (cx + 4).toNat ≤ M1 97 21) (y11 : YV (M1 97 18) (M1 107 (cx + 1).toNat) (Y1v K W hd i lv)) (y41 : Y4 M1 (M 97 21) (M1 107 (cx + 4).toNat) (yF K W hd i lv)) (sg1 : STG K W S E m M1 (g224 K W hd i lv)) : G X 7 RX10 cX10_readClause 4 none (Qv (fun M1 => IM M1 ∧ Fr (fun c => c = 97 ∨ (107 ≤ c ∧ c ≤ 111)) M M1 ∧ M1 97 12 = M 97 12 ∧ M1 97 10 = M 97 10 ∧ M1 97 44 = M 97 44 ∧ M1 97 33 = M 97 33 ∧ (CLQ K W S E m i lv (M 97 19) M1 ∧ TK M1 ∧ (0 ≤ M1 97 19 ∧ M1 97 19 ≤ 12) ∧ (0 ≤ M1 97 21 ∧ M1 97 21 ≤ M1 97 13) ∧ M 97 13 ≤ M1 97 13 ∧ CB M1 ∧ (M1 97 18 = 0 → CLM K W i lv M1 (8 * M 97 19) ∧ UN M M1 (8 * M 97 19) ∧ LO M M1 (M 97 21) ∧ M 97 21 ≤ M1 97 21)))) 224 [(1, vi hd), (2, vi cx), (0, vr X 97)] [] M1 := by
  have p12 := hi.2.2.2.1
  have tb1 := tk1.b
  have lt1 := tk1.lt
  refine g_aload_n (pc' := 225) 2 dX10_readClause_224 rfl rfl ?_
  refine g_getR (pc' := 228) dX10_readClause_225 rfl f_X10_43 rfl rfl ?_
  refine g_iload_n (pc' := 229) 1 dX10_readClause_228 rfl rfl ?_
  refine g_iconst (pc' := 230) dX10_readClause_229 rfl ?_
  refine g_iadd (pc' := 231) dX10_readClause_230 rfl ?_
  refine g_iconst (pc' := 232) dX10_readClause_231 rfl ?_
  refine g_iast (pc' := 233) dX10_readClause_232 rfl rfl (by omega) (by omega) (by decide) (fun M2 hM2 => ?_)
  have iM2 : IM M2 := IM.wr ic1 hM2 (by unfold okv; first | decide | omega)
  have fM2 : Fr (fun c => c = 97 ∨ (107 ≤ c ∧ c ≤ 111)) M M2 := Fr.wr fr1 hM2 (by first | decide | omega | (dsimp only; omega))
  have q97_12_M2 : (M2 97 12 = M 97 12) := (show M2 97 12 = M1 97 12 by rw [hM2]; exact mu_ne _ _ (by first | decide | omega)).trans q97_12
  have q97_10_M2 : (M2 97 10 = M 97 10) := (show M2 97 10 = M1 97 10 by rw [hM2]; exact mu_ne _ _ (by first | decide | omega)).trans q97_10
  have q97_44_M2 : (M2 97 44 = M 97 44) := (show M2 97 44 = M1 97 44 by rw [hM2]; exact mu_ne _ _ (by first | decide | omega)).trans q97_44
  have q97_33_M2 : (M2 97 33 = M 97 33) := (show M2 97 33 = M1 97 33 by rw [hM2]; exact mu_ne _ _ (by first | decide | omega)).trans q97_33
  have wM2_97_12 : M2 97 12 = M1 97 12 := by rw [hM2]; exact mu_ne _ _ (by first | decide | omega)
  have wM2_97_13 : M2 97 13 = M1 97 13 := by rw [hM2]; exact mu_ne _ _ (by first | decide | omega)
  have wM2_97_14 : M2 97 14 = M1 97 14 := by rw [hM2]; exact mu_ne _ _ (by first | decide | omega)
  have wM2_97_15 : M2 97 15 = M1 97 15 := by rw [hM2]; exact mu_ne _ _ (by first | decide | omega)
  have wM2_97_16 : M2 97 16 = M1 97 16 := by rw [hM2]; exact mu_ne _ _ (by first | decide | omega)
  have wM2_97_17 : M2 97 17 = M1 97 17 := by rw [hM2]; exact mu_ne _ _ (by first | decide | omega)
  have wM2_97_18 : M2 97 18 = M1 97 18 := by rw [hM2]; exact mu_ne _ _ (by first | decide | omega)
  have wM2_97_19 : M2 97 19 = M1 97 19 := by rw [hM2]; exact mu_ne _ _ (by first | decide | omega)
  have wM2_97_21 : M2 97 21 = M1 97 21 := by rw [hM2]; exact mu_ne _ _ (by first | decide | omega)
  have wM2_97_24 : M2 97 24 = M1 97 24 := by rw [hM2]; exact mu_ne _ _ (by first | decide | omega)
  have vM2_0 : M2 107 cx.toNat = M1 107 cx.toNat := (by rw [hM2]; exact mu_ne _ _ (by first | decide | omega))
  have vM2_1 : M2 107 (cx + 1).toNat = M1 107 (cx + 1).toNat := (by rw [hM2]; exact mu_ne _ _ (by first | decide | omega))
  have vM2_3 : M2 107 (cx + 3).toNat = M1 107 (cx + 3).toNat := (by rw [hM2]; exact mu_ne _ _ (by first | decide | omega))
  have vM2_4 : M2 107 (cx + 4).toNat = M1 107 (cx + 4).toNat := (by rw [hM2]; exact mu_ne _ _ (by first | decide | omega))
  have unM2 : UN M M2 cx := UN.wr un1 hM2 (by omega)
  have loM2 : LO M M2 (M 97 21) := LO.tr lo1 (LO.eq (by rw [hM2, mu_cell _ _ (by decide)]) (by rw [hM2, mu_cell _ _ (by decide)]))
  have tkM2 : TK M2 := TK.eq tk1 (show M2 97 12 = M1 97 12 by rw [hM2]; exact mu_ne _ _ (by first | decide | omega)) (show M2 97 13 = M1 97 13 by rw [hM2]; exact mu_ne _ _ (by first | decide | omega)) (show M2 97 14 = M1 97 14 by rw [hM2]; exact mu_ne _ _ (by first | decide | omega)) (show M2 97 15 = M1 97 15 by rw [hM2]; exact mu_ne _ _ (by first | decide | omega)) (show M2 97 16 = M1 97 16 by rw [hM2]; exact mu_ne _ _ (by first | decide | omega))
  have k0M2 : M2 107 cx.toNat = hd := vM2_0.trans k01
  have nmM2 : M 97 21 ≤ M2 97 21 ∧ M2 97 21 ≤ M2 97 13 ∧ M 97 13 < M2 97 13 := (by omega)
  have nclM2 : M2 97 19 = M 97 19 + 1 := (by omega)
  have k1M2 : K1 (M2 97 18) (M2 107 (cx + 1).toNat) hd := K1.nx k11 (by omega) vM2_1
  have k3M2 : M2 107 (cx + 3).toNat = M 97 21 := vM2_3.trans k31
  have k4M2 : K4 M2 (M 97 21) (M2 107 (cx + 4).toNat) := K4.nx k41 (by omega) (by rw [hM2, mu_cell _ _ (by decide)]) (by rw [hM2, mu_cell _ _ (by decide)]) rfl vM2_4
  have k4nM2 : M2 107 (cx + 4).toNat ≤ M2 97 21 := (by omega)
  have y1M2 : YV (M2 97 18) (M2 107 (cx + 1).toNat) (Y1v K W hd i lv) := YV.nx y11 (by omega) vM2_1
  have y4M2 : Y4 M2 (M 97 21) (M2 107 (cx + 4).toNat) (yF K W hd i lv) := Y4.nx y41 (by omega) (by rw [hM2, mu_cell _ _ (by decide)]) (by rw [hM2, mu_cell _ _ (by decide)]) rfl vM2_4
  have xM2_2 : M2 107 (cx + 2).toNat = (-1) := by rw [hM2]; exact mu_at _ _ _ _
  have k2M2 : K2 (M2 97 18) (M2 107 (cx + 2).toNat) := (by unfold K2; omega)
  have tzM2 : TZM M2 K W S E m := TZM.eq tz1 (by rw [hM2]; exact mu_cell _ _ (by decide)) (show M2 97 12 = M1 97 12 by rw [hM2]; exact mu_ne _ _ (by first | decide | omega))
  have sgM2 : STG K W S E m M2 (g224 K W hd i lv) := STG.eq sg1 (by omega) (by omega) (by omega) (by omega) (by omega) (by omega) (by omega)
  refine g_iload_n (pc' := 234) 0 dX10_readClause_233 rfl rfl ?_
  refine g_iconst (pc' := 235) dX10_readClause_234 rfl ?_
  refine g_ic_eq (pc' := 238) (tgt := 280) ⟨by omega, by omega⟩ (by decide) dX10_readClause_235 rfl rfl (fun c3 => ?_) (fun c3 => ?_)
  · refine g_sub [0, 1, 2] rfl ?_
    exact j_X10_readClause_z_280 X M hi htk hbad hn19 hnc hcl K W S E m i lv hz hat h24 hd cx M2 iM2 fM2 q97_12_M2 q97_10_M2 q97_44_M2 q97_33_M2 (by omega) (by omega) hds tzM2 unM2 loM2 tkM2 k0M2 (by omega) (by omega) k1M2 k3M2 k4M2 (by omega) k2M2 y1M2 y4M2 (fun y z => by omega) (by
        unfold g280
        by_cases y : hd = 1
        · rw [if_pos y]; exact sgM2
        · rw [if_neg y]; exact STG.stc sgM2 (by omega) (sTo_0 K W))
  · refine g_aload_n (pc' := 239) 2 dX10_readClause_238 rfl rfl ?_
    refine g_getI (pc' := 242) dX10_readClause_239 rfl f_X10_154 rfl rfl (fun v4 ev4 rv4 => ?_)
    refine g_if_ne (pc' := 245) (tgt := 280) rv4 dX10_readClause_242 rfl rfl (fun c5 => ?_) (fun c5 => ?_)
    · refine g_sub [0, 1, 2] rfl ?_
      exact j_X10_readClause_z_280 X M hi htk hbad hn19 hnc hcl K W S E m i lv hz hat h24 hd cx M2 iM2 fM2 q97_12_M2 q97_10_M2 q97_44_M2 q97_33_M2 (by omega) (by omega) hds tzM2 unM2 loM2 tkM2 k0M2 (by omega) (by omega) k1M2 k3M2 k4M2 (by omega) k2M2 y1M2 y4M2 (fun y z => by omega) (by
          unfold g280
          by_cases y : hd = 1
          · rw [if_pos y]; exact sgM2
          · rw [if_neg y]; exact STG.stc sgM2 (by omega) (sTo_0 K W))
    · refine g_aload_n (pc' := 246) 2 dX10_readClause_245 rfl rfl ?_
      refine g_aload_n (pc' := 247) 2 dX10_readClause_246 rfl rfl ?_
      refine g_ldc2 (pc' := 250) (v := 655) dX10_readClause_247 rfl k_X10_292 ?_
      refine g_callVip (pc' := 253) (As := [vl 655]) (b := 97) (S := [vr X 97]) dX10_readClause_250 rfl m_X10_229 w_X10_isWord (c_X10_isWord_x X M2 iM2 655 (by decide)) rfl ⟨_, _, _, rfl, rfl, rfl⟩ (by decide) (by decide) rfl (Nat.le_of_ble_eq_true rfl) (fun z7 q6 => ?_)
      refine g_callVv (pc' := 256) (As := [vi z7]) (b := 97) (S := []) dX10_readClause_253 rfl m_X10_187 w_X10_must (c_X10_must_x X M2 iM2 z7 ⟨by omega, by omega⟩ tkM2) rfl ⟨_, _, _, rfl, rfl, rfl⟩ (by decide) (by decide) rfl (Nat.le_of_ble_eq_true rfl) (fun M9 q8 => ?_)
      obtain ⟨iM9, fM90, eM9_97_12, eM9_97_19, eM9_97_21, eM9_97_24, eM9_97_27, eM9_97_28, eM9_97_10, eM9_97_44, eM9_97_33, pM9⟩ := q8
      have fM9 : Fr (fun c => c = 97 ∨ (107 ≤ c ∧ c ≤ 111)) M M9 := Fr.tr fM2 fM90 fi_52
      have q97_12_M9 : (M9 97 12 = M 97 12) := eM9_97_12.trans q97_12_M2
      have q97_10_M9 : (M9 97 10 = M 97 10) := eM9_97_10.trans q97_10_M2
      have q97_44_M9 : (M9 97 44 = M 97 44) := eM9_97_44.trans q97_44_M2
      have q97_33_M9 : (M9 97 33 = M 97 33) := eM9_97_33.trans q97_33_M2
      have wM9_97_12 : M9 97 12 = M2 97 12 := eM9_97_12
      have wM9_97_19 : M9 97 19 = M2 97 19 := eM9_97_19
      have wM9_97_21 : M9 97 21 = M2 97 21 := eM9_97_21
      have wM9_97_24 : M9 97 24 = M2 97 24 := eM9_97_24
      have tzM9 : TZM M9 K W S E m := TZM.eq tzM2 (fM90 106 (by decide)) eM9_97_12
      obtain ⟨xxM9, pM9⟩ := pM9
      obtain ⟨aM9p, bM9p, cM9p, kM9p⟩ := pM9
      have tkM9 : TK M9 := kM9p
      clear kM9p
      have tbM9 := tkM9.b
      have vM9_0 : M9 107 cx.toNat = M2 107 cx.toNat := (congrFun (fM90 107 (by decide)) _)
      have vM9_1 : M9 107 (cx + 1).toNat = M2 107 (cx + 1).toNat := (congrFun (fM90 107 (by decide)) _)
      have vM9_2 : M9 107 (cx + 2).toNat = M2 107 (cx + 2).toNat := (congrFun (fM90 107 (by decide)) _)
      have vM9_3 : M9 107 (cx + 3).toNat = M2 107 (cx + 3).toNat := (congrFun (fM90 107 (by decide)) _)
      have vM9_4 : M9 107 (cx + 4).toNat = M2 107 (cx + 4).toNat := (congrFun (fM90 107 (by decide)) _)
      have unM9 : UN M M9 cx := UN.nx unM2 (fM90 107 (by decide))
      have loM9 : LO M M9 (M 97 21) := LO.tr loM2 (LO.eq (fM90 108 (by decide)) (fM90 109 (by decide)))
      have k0M9 : M9 107 cx.toNat = hd := vM9_0.trans k0M2
      have nmM9 : M 97 21 ≤ M9 97 21 ∧ M9 97 21 ≤ M9 97 13 ∧ M 97 13 < M9 97 13 := (by omega)
      have nclM9 : M9 97 19 = M 97 19 + 1 := (by omega)
      have k1M9 : K1 (M9 97 18) (M9 107 (cx + 1).toNat) hd := K1.nx k1M2 (by omega) vM9_1
      have k3M9 : M9 107 (cx + 3).toNat = M 97 21 := vM9_3.trans k3M2
      have k4M9 : K4 M9 (M 97 21) (M9 107 (cx + 4).toNat) := K4.nx k4M2 (by omega) (fM90 108 (by decide)) (fM90 109 (by decide)) rfl vM9_4
      have k4nM9 : M9 107 (cx + 4).toNat ≤ M9 97 21 := (by omega)
      have y1M9 : YV (M9 97 18) (M9 107 (cx + 1).toNat) (Y1v K W hd i lv) := YV.nx y1M2 (by omega) vM9_1
      have y4M9 : Y4 M9 (M 97 21) (M9 107 (cx + 4).toNat) (yF K W hd i lv) := Y4.nx y4M2 (by omega) (fM90 108 (by decide)) (fM90 109 (by decide)) rfl vM9_4
      have k2M9 : K2 (M9 97 18) (M9 107 (cx + 2).toNat) := K2.nx k2M2 (by omega) vM9_2
      have sgM9 : STG K W S E m M9 (sW K W 655 (g224 K W hd i lv)) := STG.wrd 655 tzM2 sgM2 (by omega) xxM9 (by omega) (by omega)
      refine g_aload_n (pc' := 257) 2 dX10_readClause_256 rfl rfl ?_
      refine g_getR (pc' := 260) dX10_readClause_257 rfl f_X10_43 rfl rfl ?_
      refine g_iload_n (pc' := 261) 1 dX10_readClause_260 rfl rfl ?_
      refine g_iconst (pc' := 262) dX10_readClause_261 rfl ?_
      refine g_iadd (pc' := 263) dX10_readClause_262 rfl ?_
      refine g_aload_n (pc' := 264) 2 dX10_readClause_263 rfl rfl ?_
      refine g_getI (pc' := 267) dX10_readClause_264 rfl f_X10_154 rfl rfl (fun v10 ev10 rv10 => ?_)
      refine g_if_eq (pc' := 270) (tgt := 274) rv10 dX10_readClause_267 rfl rfl (fun c11 => ?_) (fun c11 => ?_)
      · refine g_aload_n (pc' := 275) 2 dX10_readClause_274 rfl rfl ?_
        refine g_iconst (pc' := 276) dX10_readClause_275 rfl ?_
        refine g_callVi (pc' := 279) (As := [vi 5]) (b := 97) (S := [vi (cx + 2), vr X 107]) dX10_readClause_276 rfl m_X10_245 w_X10_readNumber (c_X10_readNumber_x X M9 iM9 5 (by decide) tkM9 (by omega)) rfl ⟨_, _, _, rfl, rfl, rfl⟩ (by decide) (by decide) rfl (Nat.le_of_ble_eq_true rfl) (fun z13 M14 q12 => ?_)
        obtain ⟨iM14, fM140, eM14_97_12, eM14_97_19, eM14_97_21, eM14_97_24, eM14_97_27, eM14_97_28, eM14_97_10, eM14_97_44, eM14_97_33, pM14⟩ := q12
        have fM14 : Fr (fun c => c = 97 ∨ (107 ≤ c ∧ c ≤ 111)) M M14 := Fr.tr fM9 fM140 fi_52
        have q97_12_M14 : (M14 97 12 = M 97 12) := eM14_97_12.trans q97_12_M9
        have q97_10_M14 : (M14 97 10 = M 97 10) := eM14_97_10.trans q97_10_M9
        have q97_44_M14 : (M14 97 44 = M 97 44) := eM14_97_44.trans q97_44_M9
        have q97_33_M14 : (M14 97 33 = M 97 33) := eM14_97_33.trans q97_33_M9
        have wM14_97_12 : M14 97 12 = M9 97 12 := eM14_97_12
        have wM14_97_19 : M14 97 19 = M9 97 19 := eM14_97_19
        have wM14_97_21 : M14 97 21 = M9 97 21 := eM14_97_21
        have wM14_97_24 : M14 97 24 = M9 97 24 := eM14_97_24
        have tzM14 : TZM M14 K W S E m := TZM.eq tzM9 (fM140 106 (by decide)) eM14_97_12
        obtain ⟨xxM14, pM14⟩ := pM14
        obtain ⟨aM14p, bM14p, cM14p, dM14p, kM14p⟩ := pM14
        have tkM14 : TK M14 := kM14p
        clear kM14p
        have tbM14 := tkM14.b
        have vM14_0 : M14 107 cx.toNat = M9 107 cx.toNat := (congrFun (fM140 107 (by decide)) _)
        have vM14_1 : M14 107 (cx + 1).toNat = M9 107 (cx + 1).toNat := (congrFun (fM140 107 (by decide)) _)
        have vM14_2 : M14 107 (cx + 2).toNat = M9 107 (cx + 2).toNat := (congrFun (fM140 107 (by decide)) _)
        have vM14_3 : M14 107 (cx + 3).toNat = M9 107 (cx + 3).toNat := (congrFun (fM140 107 (by decide)) _)
        have vM14_4 : M14 107 (cx + 4).toNat = M9 107 (cx + 4).toNat := (congrFun (fM140 107 (by decide)) _)
        have unM14 : UN M M14 cx := UN.nx unM9 (fM140 107 (by decide))
        have loM14 : LO M M14 (M 97 21) := LO.tr loM9 (LO.eq (fM140 108 (by decide)) (fM140 109 (by decide)))
        have k0M14 : M14 107 cx.toNat = hd := vM14_0.trans k0M9
        have nmM14 : M 97 21 ≤ M14 97 21 ∧ M14 97 21 ≤ M14 97 13 ∧ M 97 13 < M14 97 13 := (by omega)
        have nclM14 : M14 97 19 = M 97 19 + 1 := (by omega)
        have k1M14 : K1 (M14 97 18) (M14 107 (cx + 1).toNat) hd := K1.nx k1M9 (by omega) vM14_1
        have k3M14 : M14 107 (cx + 3).toNat = M 97 21 := vM14_3.trans k3M9
        have k4M14 : K4 M14 (M 97 21) (M14 107 (cx + 4).toNat) := K4.nx k4M9 (by omega) (fM140 108 (by decide)) (fM140 109 (by decide)) rfl vM14_4
        have k4nM14 : M14 107 (cx + 4).toNat ≤ M14 97 21 := (by omega)
        have y1M14 : YV (M14 97 18) (M14 107 (cx + 1).toNat) (Y1v K W hd i lv) := YV.nx y1M9 (by omega) vM14_1
        have y4M14 : Y4 M14 (M 97 21) (M14 107 (cx + 4).toNat) (yF K W hd i lv) := Y4.nx y4M9 (by omega) (fM140 108 (by decide)) (fM140 109 (by decide)) rfl vM14_4
        have k2M14 : K2 (M14 97 18) (M14 107 (cx + 2).toNat) := K2.nx k2M9 (by omega) vM14_2
        have nvM14 := STG.numv tzM9 sgM9 (by omega) xxM14
        have sgM14 : STG K W S E m M14 (sN K W 0 5 (sW K W 655 (g224 K W hd i lv))) := STG.num0 tzM9 sgM9 (by omega) xxM14 (by omega)
        refine g_iast (pc' := 280) dX10_readClause_279 rfl rfl (by omega) (by omega) ⟨by omega, by omega⟩ (fun M15 hM15 => ?_)
        have iM15 : IM M15 := IM.wr iM14 hM15 (by unfold okv; first | decide | omega)
        have fM15 : Fr (fun c => c = 97 ∨ (107 ≤ c ∧ c ≤ 111)) M M15 := Fr.wr fM14 hM15 (by first | decide | omega | (dsimp only; omega))
        have q97_12_M15 : (M15 97 12 = M 97 12) := (show M15 97 12 = M14 97 12 by rw [hM15]; exact mu_ne _ _ (by first | decide | omega)).trans q97_12_M14
        have q97_10_M15 : (M15 97 10 = M 97 10) := (show M15 97 10 = M14 97 10 by rw [hM15]; exact mu_ne _ _ (by first | decide | omega)).trans q97_10_M14
        have q97_44_M15 : (M15 97 44 = M 97 44) := (show M15 97 44 = M14 97 44 by rw [hM15]; exact mu_ne _ _ (by first | decide | omega)).trans q97_44_M14
        have q97_33_M15 : (M15 97 33 = M 97 33) := (show M15 97 33 = M14 97 33 by rw [hM15]; exact mu_ne _ _ (by first | decide | omega)).trans q97_33_M14
        have wM15_97_12 : M15 97 12 = M14 97 12 := by rw [hM15]; exact mu_ne _ _ (by first | decide | omega)
        have wM15_97_13 : M15 97 13 = M14 97 13 := by rw [hM15]; exact mu_ne _ _ (by first | decide | omega)
        have wM15_97_14 : M15 97 14 = M14 97 14 := by rw [hM15]; exact mu_ne _ _ (by first | decide | omega)
        have wM15_97_15 : M15 97 15 = M14 97 15 := by rw [hM15]; exact mu_ne _ _ (by first | decide | omega)
        have wM15_97_16 : M15 97 16 = M14 97 16 := by rw [hM15]; exact mu_ne _ _ (by first | decide | omega)
        have wM15_97_17 : M15 97 17 = M14 97 17 := by rw [hM15]; exact mu_ne _ _ (by first | decide | omega)
        have wM15_97_18 : M15 97 18 = M14 97 18 := by rw [hM15]; exact mu_ne _ _ (by first | decide | omega)
        have wM15_97_19 : M15 97 19 = M14 97 19 := by rw [hM15]; exact mu_ne _ _ (by first | decide | omega)
        have wM15_97_21 : M15 97 21 = M14 97 21 := by rw [hM15]; exact mu_ne _ _ (by first | decide | omega)
        have wM15_97_24 : M15 97 24 = M14 97 24 := by rw [hM15]; exact mu_ne _ _ (by first | decide | omega)
        have vM15_0 : M15 107 cx.toNat = M14 107 cx.toNat := (by rw [hM15]; exact mu_ne _ _ (by first | decide | omega))
        have vM15_1 : M15 107 (cx + 1).toNat = M14 107 (cx + 1).toNat := (by rw [hM15]; exact mu_ne _ _ (by first | decide | omega))
        have vM15_3 : M15 107 (cx + 3).toNat = M14 107 (cx + 3).toNat := (by rw [hM15]; exact mu_ne _ _ (by first | decide | omega))
        have vM15_4 : M15 107 (cx + 4).toNat = M14 107 (cx + 4).toNat := (by rw [hM15]; exact mu_ne _ _ (by first | decide | omega))
        have unM15 : UN M M15 cx := UN.wr unM14 hM15 (by omega)
        have loM15 : LO M M15 (M 97 21) := LO.tr loM14 (LO.eq (by rw [hM15, mu_cell _ _ (by decide)]) (by rw [hM15, mu_cell _ _ (by decide)]))
        have tkM15 : TK M15 := TK.eq tkM14 (show M15 97 12 = M14 97 12 by rw [hM15]; exact mu_ne _ _ (by first | decide | omega)) (show M15 97 13 = M14 97 13 by rw [hM15]; exact mu_ne _ _ (by first | decide | omega)) (show M15 97 14 = M14 97 14 by rw [hM15]; exact mu_ne _ _ (by first | decide | omega)) (show M15 97 15 = M14 97 15 by rw [hM15]; exact mu_ne _ _ (by first | decide | omega)) (show M15 97 16 = M14 97 16 by rw [hM15]; exact mu_ne _ _ (by first | decide | omega))
        have k0M15 : M15 107 cx.toNat = hd := vM15_0.trans k0M14
        have nmM15 : M 97 21 ≤ M15 97 21 ∧ M15 97 21 ≤ M15 97 13 ∧ M 97 13 < M15 97 13 := (by omega)
        have nclM15 : M15 97 19 = M 97 19 + 1 := (by omega)
        have k1M15 : K1 (M15 97 18) (M15 107 (cx + 1).toNat) hd := K1.nx k1M14 (by omega) vM15_1
        have k3M15 : M15 107 (cx + 3).toNat = M 97 21 := vM15_3.trans k3M14
        have k4M15 : K4 M15 (M 97 21) (M15 107 (cx + 4).toNat) := K4.nx k4M14 (by omega) (by rw [hM15, mu_cell _ _ (by decide)]) (by rw [hM15, mu_cell _ _ (by decide)]) rfl vM15_4
        have k4nM15 : M15 107 (cx + 4).toNat ≤ M15 97 21 := (by omega)
        have y1M15 : YV (M15 97 18) (M15 107 (cx + 1).toNat) (Y1v K W hd i lv) := YV.nx y1M14 (by omega) vM15_1
        have y4M15 : Y4 M15 (M 97 21) (M15 107 (cx + 4).toNat) (yF K W hd i lv) := Y4.nx y4M14 (by omega) (by rw [hM15, mu_cell _ _ (by decide)]) (by rw [hM15, mu_cell _ _ (by decide)]) rfl vM15_4
        have xM15_2 : M15 107 (cx + 2).toNat = z13 := by rw [hM15]; exact mu_at _ _ _ _
        have k2M15 : K2 (M15 97 18) (M15 107 (cx + 2).toNat) := (by unfold K2; omega)
        have y2M15 : Y2a (M15 97 18) (M15 107 (cx + 2).toNat) hd (W (sW K W 655 (g224 K W hd i lv)).2.1) := (fun _ z => by first | exact absurd z (by omega) | exact xM15_2.trans (nvM14 (by omega)))
        have tzM15 : TZM M15 K W S E m := TZM.eq tzM14 (by rw [hM15]; exact mu_cell _ _ (by decide)) (show M15 97 12 = M14 97 12 by rw [hM15]; exact mu_ne _ _ (by first | decide | omega))
        have sgM15 : STG K W S E m M15 (sN K W 0 5 (sW K W 655 (g224 K W hd i lv))) := STG.eq sgM14 (by omega) (by omega) (by omega) (by omega) (by omega) (by omega) (by omega)
        refine g_sub [0, 1, 2] rfl ?_
        exact j_X10_readClause_z_280 X M hi htk hbad hn19 hnc hcl K W S E m i lv hz hat h24 hd cx M15 iM15 fM15 q97_12_M15 q97_10_M15 q97_44_M15 q97_33_M15 (by omega) (by omega) hds tzM15 unM15 loM15 tkM15 k0M15 (by omega) (by omega) k1M15 k3M15 k4M15 (by omega) k2M15 y1M15 y4M15 y2M15 (by
            unfold g280
            rw [if_neg (by omega)]; exact sgM15)
      · refine g_iconst (pc' := 271) dX10_readClause_270 rfl ?_
        refine g_goto (tgt := 279) dX10_readClause_271 rfl ?_
        refine g_iast (pc' := 280) dX10_readClause_279 rfl rfl (by omega) (by omega) (by decide) (fun M16 hM16 => ?_)
        have iM16 : IM M16 := IM.wr iM9 hM16 (by unfold okv; first | decide | omega)
        have fM16 : Fr (fun c => c = 97 ∨ (107 ≤ c ∧ c ≤ 111)) M M16 := Fr.wr fM9 hM16 (by first | decide | omega | (dsimp only; omega))
        have q97_12_M16 : (M16 97 12 = M 97 12) := (show M16 97 12 = M9 97 12 by rw [hM16]; exact mu_ne _ _ (by first | decide | omega)).trans q97_12_M9
        have q97_10_M16 : (M16 97 10 = M 97 10) := (show M16 97 10 = M9 97 10 by rw [hM16]; exact mu_ne _ _ (by first | decide | omega)).trans q97_10_M9
        have q97_44_M16 : (M16 97 44 = M 97 44) := (show M16 97 44 = M9 97 44 by rw [hM16]; exact mu_ne _ _ (by first | decide | omega)).trans q97_44_M9
        have q97_33_M16 : (M16 97 33 = M 97 33) := (show M16 97 33 = M9 97 33 by rw [hM16]; exact mu_ne _ _ (by first | decide | omega)).trans q97_33_M9
        have wM16_97_12 : M16 97 12 = M9 97 12 := by rw [hM16]; exact mu_ne _ _ (by first | decide | omega)
        have wM16_97_13 : M16 97 13 = M9 97 13 := by rw [hM16]; exact mu_ne _ _ (by first | decide | omega)
        have wM16_97_14 : M16 97 14 = M9 97 14 := by rw [hM16]; exact mu_ne _ _ (by first | decide | omega)
        have wM16_97_15 : M16 97 15 = M9 97 15 := by rw [hM16]; exact mu_ne _ _ (by first | decide | omega)
        have wM16_97_16 : M16 97 16 = M9 97 16 := by rw [hM16]; exact mu_ne _ _ (by first | decide | omega)
        have wM16_97_17 : M16 97 17 = M9 97 17 := by rw [hM16]; exact mu_ne _ _ (by first | decide | omega)
        have wM16_97_18 : M16 97 18 = M9 97 18 := by rw [hM16]; exact mu_ne _ _ (by first | decide | omega)
        have wM16_97_19 : M16 97 19 = M9 97 19 := by rw [hM16]; exact mu_ne _ _ (by first | decide | omega)
        have wM16_97_21 : M16 97 21 = M9 97 21 := by rw [hM16]; exact mu_ne _ _ (by first | decide | omega)
        have wM16_97_24 : M16 97 24 = M9 97 24 := by rw [hM16]; exact mu_ne _ _ (by first | decide | omega)
        have vM16_0 : M16 107 cx.toNat = M9 107 cx.toNat := (by rw [hM16]; exact mu_ne _ _ (by first | decide | omega))
        have vM16_1 : M16 107 (cx + 1).toNat = M9 107 (cx + 1).toNat := (by rw [hM16]; exact mu_ne _ _ (by first | decide | omega))
        have vM16_3 : M16 107 (cx + 3).toNat = M9 107 (cx + 3).toNat := (by rw [hM16]; exact mu_ne _ _ (by first | decide | omega))
        have vM16_4 : M16 107 (cx + 4).toNat = M9 107 (cx + 4).toNat := (by rw [hM16]; exact mu_ne _ _ (by first | decide | omega))
        have unM16 : UN M M16 cx := UN.wr unM9 hM16 (by omega)
        have loM16 : LO M M16 (M 97 21) := LO.tr loM9 (LO.eq (by rw [hM16, mu_cell _ _ (by decide)]) (by rw [hM16, mu_cell _ _ (by decide)]))
        have tkM16 : TK M16 := TK.eq tkM9 (show M16 97 12 = M9 97 12 by rw [hM16]; exact mu_ne _ _ (by first | decide | omega)) (show M16 97 13 = M9 97 13 by rw [hM16]; exact mu_ne _ _ (by first | decide | omega)) (show M16 97 14 = M9 97 14 by rw [hM16]; exact mu_ne _ _ (by first | decide | omega)) (show M16 97 15 = M9 97 15 by rw [hM16]; exact mu_ne _ _ (by first | decide | omega)) (show M16 97 16 = M9 97 16 by rw [hM16]; exact mu_ne _ _ (by first | decide | omega))
        have k0M16 : M16 107 cx.toNat = hd := vM16_0.trans k0M9
        have nmM16 : M 97 21 ≤ M16 97 21 ∧ M16 97 21 ≤ M16 97 13 ∧ M 97 13 < M16 97 13 := (by omega)
        have nclM16 : M16 97 19 = M 97 19 + 1 := (by omega)
        have k1M16 : K1 (M16 97 18) (M16 107 (cx + 1).toNat) hd := K1.nx k1M9 (by omega) vM16_1
        have k3M16 : M16 107 (cx + 3).toNat = M 97 21 := vM16_3.trans k3M9
        have k4M16 : K4 M16 (M 97 21) (M16 107 (cx + 4).toNat) := K4.nx k4M9 (by omega) (by rw [hM16, mu_cell _ _ (by decide)]) (by rw [hM16, mu_cell _ _ (by decide)]) rfl vM16_4
        have k4nM16 : M16 107 (cx + 4).toNat ≤ M16 97 21 := (by omega)
        have y1M16 : YV (M16 97 18) (M16 107 (cx + 1).toNat) (Y1v K W hd i lv) := YV.nx y1M9 (by omega) vM16_1
        have y4M16 : Y4 M16 (M 97 21) (M16 107 (cx + 4).toNat) (yF K W hd i lv) := Y4.nx y4M9 (by omega) (by rw [hM16, mu_cell _ _ (by decide)]) (by rw [hM16, mu_cell _ _ (by decide)]) rfl vM16_4
        have xM16_2 : M16 107 (cx + 2).toNat = 0 := by rw [hM16]; exact mu_at _ _ _ _
        have k2M16 : K2 (M16 97 18) (M16 107 (cx + 2).toNat) := (by unfold K2; omega)
        have y2M16 : Y2a (M16 97 18) (M16 107 (cx + 2).toNat) hd (W (sW K W 655 (g224 K W hd i lv)).2.1) := (fun _ z => by first | exact absurd z (by omega) | exact xM16_2.trans (trivial (by omega)))
        have tzM16 : TZM M16 K W S E m := TZM.eq tzM9 (by rw [hM16]; exact mu_cell _ _ (by decide)) (show M16 97 12 = M9 97 12 by rw [hM16]; exact mu_ne _ _ (by first | decide | omega))
        have sgM16 : STG K W S E m M16 (sW K W 655 (g224 K W hd i lv)) := STG.eq sgM9 (by omega) (by omega) (by omega) (by omega) (by omega) (by omega) (by omega)
        refine g_sub [0, 1, 2] rfl ?_
        exact j_X10_readClause_z_280 X M hi htk hbad hn19 hnc hcl K W S E m i lv hz hat h24 hd cx M16 iM16 fM16 q97_12_M16 q97_10_M16 q97_44_M16 q97_33_M16 (by omega) (by omega) hds tzM16 unM16 loM16 tkM16 k0M16 (by omega) (by omega) k1M16 k3M16 k4M16 (by omega) k2M16 y1M16 y4M16 y2M16 (by
            unfold g280
            rw [if_neg (by omega)]; unfold sTo; exact STG.stc sgM16 (by omega) (sN_0 K W 0 5))
set_option maxHeartbeats 4000000 in
set_option maxRecDepth 100000 in
theorem j_X10_readClause_z_165 (X : Cx) (M : Mm) (hi : IM M) (htk : TK M) (hbad : M 97 18 = 0) (hn19 : 0 ≤ M 97 19 ∧ M 97 19 ≤ 12) (hnc : 0 ≤ M 97 21 ∧ M 97 21 ≤ M 97 13) (hcl : CLS M) (K W S E : Nat → Int) (m i : Nat) (lv : Int) (hz : TZM M K W S E m) (hat : AT K W S E m M i) (h24 : M 97 24 = lv) (hd : Int) (cx : Int) (M1 : Mm) (ic1 : IM M1) (fr1 : Fr (fun c => c = 97 ∨ (107 ≤ c ∧ c ≤ 111)) M M1) (q97_12 : (M1 97 12 = M 97 12)) (q97_10 : (M1 97 10 = M 97 10)) (q97_44 : (M1 97 44 = M 97 44)) (q97_33 : (M1 97 33 = M 97 33)) (hhd : 0 ≤ hd ∧ hd ≤ 2) (hcx : cx = 8 * M 97 19 ∧ M 97 19 < 12) (hds : HDs K W i hd) (tz1 : TZM M1 K W S E m) (un1 : UN M M1 cx) (lo1 : LO M M1 (M 97 21)) (tk1 : TK M1) (k01 : M1 107 cx.toNat = hd) (nm1 : M 97 21 ≤ M1 97 21 ∧ M1 97 21 ≤ M1 97 13 ∧ M 97 13 < M1 97 13) (ncl1 : M1 97 19 = M 97 19 + 1) (k1a1 : K1a (M1 97 18) (M1 107 (cx + 1).toNat) hd) (k31 : M1 107 (cx + 3).toNat = M 97 21) (rx1 : RX M1 (M 97 21)) (y1a1 : Y1a (M1 97 18) (M1 107 (cx + 1).toNat) hd (W (i + 1))) (ry1 : Y4 M1 (M 97 21) (M1 97 21) (yF K W hd i lv)) (sg1 : STG K W S E m M1 (g165 K W hd i lv)) : G X 7 RX10 cX10_readClause 4 none (Qv (fun M1 => IM M1 ∧ Fr (fun c => c = 97 ∨ (107 ≤ c ∧ c ≤ 111)) M M1 ∧ M1 97 12 = M 97 12 ∧ M1 97 10 = M 97 10 ∧ M1 97 44 = M 97 44 ∧ M1 97 33 = M 97 33 ∧ (CLQ K W S E m i lv (M 97 19) M1 ∧ TK M1 ∧ (0 ≤ M1 97 19 ∧ M1 97 19 ≤ 12) ∧ (0 ≤ M1 97 21 ∧ M1 97 21 ≤ M1 97 13) ∧ M 97 13 ≤ M1 97 13 ∧ CB M1 ∧ (M1 97 18 = 0 → CLM K W i lv M1 (8 * M 97 19) ∧ UN M M1 (8 * M 97 19) ∧ LO M M1 (M 97 21) ∧ M 97 21 ≤ M1 97 21)))) 165 [(1, vi hd), (2, vi cx), (0, vr X 97)] [] M1 := by
  have p12 := hi.2.2.2.1
  have tb1 := tk1.b
  have lt1 := tk1.lt
  refine g_aload_n (pc' := 166) 2 dX10_readClause_165 rfl rfl ?_
  refine g_getR (pc' := 169) dX10_readClause_166 rfl f_X10_43 rfl rfl ?_
  refine g_iload_n (pc' := 170) 1 dX10_readClause_169 rfl rfl ?_
  refine g_iconst (pc' := 171) dX10_readClause_170 rfl ?_
  refine g_iadd (pc' := 172) dX10_readClause_171 rfl ?_
  refine g_aload_n (pc' := 173) 2 dX10_readClause_172 rfl rfl ?_
  refine g_getI (pc' := 176) dX10_readClause_173 rfl f_X10_191 rfl rfl (fun v2 ev2 rv2 => ?_)
  refine g_iast (pc' := 177) dX10_readClause_176 rfl rfl (by omega) (by omega) rv2 (fun M3 hM3 => ?_)
  have iM3 : IM M3 := IM.wr ic1 hM3 (by unfold okv; first | decide | omega)
  have fM3 : Fr (fun c => c = 97 ∨ (107 ≤ c ∧ c ≤ 111)) M M3 := Fr.wr fr1 hM3 (by first | decide | omega | (dsimp only; omega))
  have q97_12_M3 : (M3 97 12 = M 97 12) := (show M3 97 12 = M1 97 12 by rw [hM3]; exact mu_ne _ _ (by first | decide | omega)).trans q97_12
  have q97_10_M3 : (M3 97 10 = M 97 10) := (show M3 97 10 = M1 97 10 by rw [hM3]; exact mu_ne _ _ (by first | decide | omega)).trans q97_10
  have q97_44_M3 : (M3 97 44 = M 97 44) := (show M3 97 44 = M1 97 44 by rw [hM3]; exact mu_ne _ _ (by first | decide | omega)).trans q97_44
  have q97_33_M3 : (M3 97 33 = M 97 33) := (show M3 97 33 = M1 97 33 by rw [hM3]; exact mu_ne _ _ (by first | decide | omega)).trans q97_33
  have wM3_97_12 : M3 97 12 = M1 97 12 := by rw [hM3]; exact mu_ne _ _ (by first | decide | omega)
  have wM3_97_13 : M3 97 13 = M1 97 13 := by rw [hM3]; exact mu_ne _ _ (by first | decide | omega)
  have wM3_97_14 : M3 97 14 = M1 97 14 := by rw [hM3]; exact mu_ne _ _ (by first | decide | omega)
  have wM3_97_15 : M3 97 15 = M1 97 15 := by rw [hM3]; exact mu_ne _ _ (by first | decide | omega)
  have wM3_97_16 : M3 97 16 = M1 97 16 := by rw [hM3]; exact mu_ne _ _ (by first | decide | omega)
  have wM3_97_17 : M3 97 17 = M1 97 17 := by rw [hM3]; exact mu_ne _ _ (by first | decide | omega)
  have wM3_97_18 : M3 97 18 = M1 97 18 := by rw [hM3]; exact mu_ne _ _ (by first | decide | omega)
  have wM3_97_19 : M3 97 19 = M1 97 19 := by rw [hM3]; exact mu_ne _ _ (by first | decide | omega)
  have wM3_97_21 : M3 97 21 = M1 97 21 := by rw [hM3]; exact mu_ne _ _ (by first | decide | omega)
  have wM3_97_24 : M3 97 24 = M1 97 24 := by rw [hM3]; exact mu_ne _ _ (by first | decide | omega)
  have vM3_0 : M3 107 cx.toNat = M1 107 cx.toNat := (by rw [hM3]; exact mu_ne _ _ (by first | decide | omega))
  have vM3_1 : M3 107 (cx + 1).toNat = M1 107 (cx + 1).toNat := (by rw [hM3]; exact mu_ne _ _ (by first | decide | omega))
  have vM3_3 : M3 107 (cx + 3).toNat = M1 107 (cx + 3).toNat := (by rw [hM3]; exact mu_ne _ _ (by first | decide | omega))
  have unM3 : UN M M3 cx := UN.wr un1 hM3 (by omega)
  have loM3 : LO M M3 (M 97 21) := LO.tr lo1 (LO.eq (by rw [hM3, mu_cell _ _ (by decide)]) (by rw [hM3, mu_cell _ _ (by decide)]))
  have tkM3 : TK M3 := TK.eq tk1 (show M3 97 12 = M1 97 12 by rw [hM3]; exact mu_ne _ _ (by first | decide | omega)) (show M3 97 13 = M1 97 13 by rw [hM3]; exact mu_ne _ _ (by first | decide | omega)) (show M3 97 14 = M1 97 14 by rw [hM3]; exact mu_ne _ _ (by first | decide | omega)) (show M3 97 15 = M1 97 15 by rw [hM3]; exact mu_ne _ _ (by first | decide | omega)) (show M3 97 16 = M1 97 16 by rw [hM3]; exact mu_ne _ _ (by first | decide | omega))
  have k0M3 : M3 107 cx.toNat = hd := vM3_0.trans k01
  have nmM3 : M 97 21 ≤ M3 97 21 ∧ M3 97 21 ≤ M3 97 13 ∧ M 97 13 < M3 97 13 := (by omega)
  have nclM3 : M3 97 19 = M 97 19 + 1 := (by omega)
  have k1aM3 : K1a (M3 97 18) (M3 107 (cx + 1).toNat) hd := K1a.nx k1a1 (by omega) vM3_1
  have k3M3 : M3 107 (cx + 3).toNat = M 97 21 := vM3_3.trans k31
  have rxM3 : RX M3 (M 97 21) := RX.nx rx1 (by omega) (by rw [hM3, mu_cell _ _ (by decide)]) (by rw [hM3, mu_cell _ _ (by decide)]) (by omega)
  have y1aM3 : Y1a (M3 97 18) (M3 107 (cx + 1).toNat) hd (W (i + 1)) := Y1a.nx y1a1 (by omega) vM3_1
  have ryM3 : Y4 M3 (M 97 21) (M3 97 21) (yF K W hd i lv) := Y4.nx ry1 (by omega) (by rw [hM3, mu_cell _ _ (by decide)]) (by rw [hM3, mu_cell _ _ (by decide)]) rfl (by omega)
  have xM3_4 : M3 107 (cx + 4).toNat = v2 := by rw [hM3]; exact mu_at _ _ _ _
  have k4M3 : K4 M3 (M 97 21) (M3 107 (cx + 4).toNat) := K4.rx rxM3 rfl (by omega)
  have k4nM3 : M3 107 (cx + 4).toNat ≤ M3 97 21 := (by omega)
  have y4M3 : Y4 M3 (M 97 21) (M3 107 (cx + 4).toNat) (yF K W hd i lv) := Y4.nx ry1 (by omega) (by rw [hM3, mu_cell _ _ (by decide)]) (by rw [hM3, mu_cell _ _ (by decide)]) rfl (by omega)
  have tzM3 : TZM M3 K W S E m := TZM.eq tz1 (by rw [hM3]; exact mu_cell _ _ (by decide)) (show M3 97 12 = M1 97 12 by rw [hM3]; exact mu_ne _ _ (by first | decide | omega))
  have sgM3 : STG K W S E m M3 (g165 K W hd i lv) := STG.eq sg1 (by omega) (by omega) (by omega) (by omega) (by omega) (by omega) (by omega)
  refine g_iload_n (pc' := 178) 0 dX10_readClause_177 rfl rfl ?_
  refine g_iconst (pc' := 179) dX10_readClause_178 rfl ?_
  refine g_ic_eq (pc' := 182) (tgt := 224) ⟨by omega, by omega⟩ (by decide) dX10_readClause_179 rfl rfl (fun c4 => ?_) (fun c4 => ?_)
  · refine g_sub [0, 1, 2] rfl ?_
    exact j_X10_readClause_z_224 X M hi htk hbad hn19 hnc hcl K W S E m i lv hz hat h24 hd cx M3 iM3 fM3 q97_12_M3 q97_10_M3 q97_44_M3 q97_33_M3 (by omega) (by omega) hds tzM3 unM3 loM3 tkM3 k0M3 (by omega) (by omega) (K1.or k1aM3 (by omega)) k3M3 k4M3 (by omega) (Y1a.or y1aM3 (by omega)) y4M3 (by
        unfold g224
        by_cases y : hd = 2
        · rw [if_pos y]; exact sgM3
        · rw [if_neg y]; exact STG.stc sgM3 (by omega) (sFr_0 K W))
  · refine g_aload_n (pc' := 183) 2 dX10_readClause_182 rfl rfl ?_
    refine g_getI (pc' := 186) dX10_readClause_183 rfl f_X10_154 rfl rfl (fun v5 ev5 rv5 => ?_)
    refine g_if_ne (pc' := 189) (tgt := 224) rv5 dX10_readClause_186 rfl rfl (fun c6 => ?_) (fun c6 => ?_)
    · refine g_sub [0, 1, 2] rfl ?_
      exact j_X10_readClause_z_224 X M hi htk hbad hn19 hnc hcl K W S E m i lv hz hat h24 hd cx M3 iM3 fM3 q97_12_M3 q97_10_M3 q97_44_M3 q97_33_M3 (by omega) (by omega) hds tzM3 unM3 loM3 tkM3 k0M3 (by omega) (by omega) (K1.or k1aM3 (by omega)) k3M3 k4M3 (by omega) (Y1a.or y1aM3 (by omega)) y4M3 (by
          unfold g224
          by_cases y : hd = 2
          · rw [if_pos y]; exact sgM3
          · rw [if_neg y]; exact STG.stc sgM3 (by omega) (sFr_0 K W))
    · refine g_aload_n (pc' := 190) 2 dX10_readClause_189 rfl rfl ?_
      refine g_aload_n (pc' := 191) 2 dX10_readClause_190 rfl rfl ?_
      refine g_ldc2 (pc' := 194) (v := 215533) dX10_readClause_191 rfl k_X10_290 ?_
      refine g_callVip (pc' := 197) (As := [vl 215533]) (b := 97) (S := [vr X 97]) dX10_readClause_194 rfl m_X10_229 w_X10_isWord (c_X10_isWord_x X M3 iM3 215533 (by decide)) rfl ⟨_, _, _, rfl, rfl, rfl⟩ (by decide) (by decide) rfl (Nat.le_of_ble_eq_true rfl) (fun z8 q7 => ?_)
      refine g_callVv (pc' := 200) (As := [vi z8]) (b := 97) (S := []) dX10_readClause_197 rfl m_X10_187 w_X10_must (c_X10_must_x X M3 iM3 z8 ⟨by omega, by omega⟩ tkM3) rfl ⟨_, _, _, rfl, rfl, rfl⟩ (by decide) (by decide) rfl (Nat.le_of_ble_eq_true rfl) (fun M10 q9 => ?_)
      obtain ⟨iM10, fM100, eM10_97_12, eM10_97_19, eM10_97_21, eM10_97_24, eM10_97_27, eM10_97_28, eM10_97_10, eM10_97_44, eM10_97_33, pM10⟩ := q9
      have fM10 : Fr (fun c => c = 97 ∨ (107 ≤ c ∧ c ≤ 111)) M M10 := Fr.tr fM3 fM100 fi_52
      have q97_12_M10 : (M10 97 12 = M 97 12) := eM10_97_12.trans q97_12_M3
      have q97_10_M10 : (M10 97 10 = M 97 10) := eM10_97_10.trans q97_10_M3
      have q97_44_M10 : (M10 97 44 = M 97 44) := eM10_97_44.trans q97_44_M3
      have q97_33_M10 : (M10 97 33 = M 97 33) := eM10_97_33.trans q97_33_M3
      have wM10_97_12 : M10 97 12 = M3 97 12 := eM10_97_12
      have wM10_97_19 : M10 97 19 = M3 97 19 := eM10_97_19
      have wM10_97_21 : M10 97 21 = M3 97 21 := eM10_97_21
      have wM10_97_24 : M10 97 24 = M3 97 24 := eM10_97_24
      have tzM10 : TZM M10 K W S E m := TZM.eq tzM3 (fM100 106 (by decide)) eM10_97_12
      obtain ⟨xxM10, pM10⟩ := pM10
      obtain ⟨aM10p, bM10p, cM10p, kM10p⟩ := pM10
      have tkM10 : TK M10 := kM10p
      clear kM10p
      have tbM10 := tkM10.b
      have vM10_0 : M10 107 cx.toNat = M3 107 cx.toNat := (congrFun (fM100 107 (by decide)) _)
      have vM10_1 : M10 107 (cx + 1).toNat = M3 107 (cx + 1).toNat := (congrFun (fM100 107 (by decide)) _)
      have vM10_3 : M10 107 (cx + 3).toNat = M3 107 (cx + 3).toNat := (congrFun (fM100 107 (by decide)) _)
      have vM10_4 : M10 107 (cx + 4).toNat = M3 107 (cx + 4).toNat := (congrFun (fM100 107 (by decide)) _)
      have unM10 : UN M M10 cx := UN.nx unM3 (fM100 107 (by decide))
      have loM10 : LO M M10 (M 97 21) := LO.tr loM3 (LO.eq (fM100 108 (by decide)) (fM100 109 (by decide)))
      have k0M10 : M10 107 cx.toNat = hd := vM10_0.trans k0M3
      have nmM10 : M 97 21 ≤ M10 97 21 ∧ M10 97 21 ≤ M10 97 13 ∧ M 97 13 < M10 97 13 := (by omega)
      have nclM10 : M10 97 19 = M 97 19 + 1 := (by omega)
      have k1aM10 : K1a (M10 97 18) (M10 107 (cx + 1).toNat) hd := K1a.nx k1aM3 (by omega) vM10_1
      have k3M10 : M10 107 (cx + 3).toNat = M 97 21 := vM10_3.trans k3M3
      have y1aM10 : Y1a (M10 97 18) (M10 107 (cx + 1).toNat) hd (W (i + 1)) := Y1a.nx y1aM3 (by omega) vM10_1
      have k4M10 : K4 M10 (M 97 21) (M10 107 (cx + 4).toNat) := K4.nx k4M3 (by omega) (fM100 108 (by decide)) (fM100 109 (by decide)) rfl vM10_4
      have k4nM10 : M10 107 (cx + 4).toNat ≤ M10 97 21 := (by omega)
      have y4M10 : Y4 M10 (M 97 21) (M10 107 (cx + 4).toNat) (yF K W hd i lv) := Y4.nx y4M3 (by omega) (fM100 108 (by decide)) (fM100 109 (by decide)) rfl vM10_4
      have sgM10 : STG K W S E m M10 (sW K W 215533 (g165 K W hd i lv)) := STG.wrd 215533 tzM3 sgM3 (by omega) xxM10 (by omega) (by omega)
      refine g_aload_n (pc' := 201) 2 dX10_readClause_200 rfl rfl ?_
      refine g_getR (pc' := 204) dX10_readClause_201 rfl f_X10_43 rfl rfl ?_
      refine g_iload_n (pc' := 205) 1 dX10_readClause_204 rfl rfl ?_
      refine g_iconst (pc' := 206) dX10_readClause_205 rfl ?_
      refine g_iadd (pc' := 207) dX10_readClause_206 rfl ?_
      refine g_aload_n (pc' := 208) 2 dX10_readClause_207 rfl rfl ?_
      refine g_getI (pc' := 211) dX10_readClause_208 rfl f_X10_154 rfl rfl (fun v11 ev11 rv11 => ?_)
      refine g_if_eq (pc' := 214) (tgt := 218) rv11 dX10_readClause_211 rfl rfl (fun c12 => ?_) (fun c12 => ?_)
      · refine g_aload_n (pc' := 219) 2 dX10_readClause_218 rfl rfl ?_
        refine g_iconst (pc' := 220) dX10_readClause_219 rfl ?_
        refine g_callVi (pc' := 223) (As := [vi 5]) (b := 97) (S := [vi (cx + 1), vr X 107]) dX10_readClause_220 rfl m_X10_245 w_X10_readNumber (c_X10_readNumber_x X M10 iM10 5 (by decide) tkM10 (by omega)) rfl ⟨_, _, _, rfl, rfl, rfl⟩ (by decide) (by decide) rfl (Nat.le_of_ble_eq_true rfl) (fun z14 M15 q13 => ?_)
        obtain ⟨iM15, fM150, eM15_97_12, eM15_97_19, eM15_97_21, eM15_97_24, eM15_97_27, eM15_97_28, eM15_97_10, eM15_97_44, eM15_97_33, pM15⟩ := q13
        have fM15 : Fr (fun c => c = 97 ∨ (107 ≤ c ∧ c ≤ 111)) M M15 := Fr.tr fM10 fM150 fi_52
        have q97_12_M15 : (M15 97 12 = M 97 12) := eM15_97_12.trans q97_12_M10
        have q97_10_M15 : (M15 97 10 = M 97 10) := eM15_97_10.trans q97_10_M10
        have q97_44_M15 : (M15 97 44 = M 97 44) := eM15_97_44.trans q97_44_M10
        have q97_33_M15 : (M15 97 33 = M 97 33) := eM15_97_33.trans q97_33_M10
        have wM15_97_12 : M15 97 12 = M10 97 12 := eM15_97_12
        have wM15_97_19 : M15 97 19 = M10 97 19 := eM15_97_19
        have wM15_97_21 : M15 97 21 = M10 97 21 := eM15_97_21
        have wM15_97_24 : M15 97 24 = M10 97 24 := eM15_97_24
        have tzM15 : TZM M15 K W S E m := TZM.eq tzM10 (fM150 106 (by decide)) eM15_97_12
        obtain ⟨xxM15, pM15⟩ := pM15
        obtain ⟨aM15p, bM15p, cM15p, dM15p, kM15p⟩ := pM15
        have tkM15 : TK M15 := kM15p
        clear kM15p
        have tbM15 := tkM15.b
        have vM15_0 : M15 107 cx.toNat = M10 107 cx.toNat := (congrFun (fM150 107 (by decide)) _)
        have vM15_1 : M15 107 (cx + 1).toNat = M10 107 (cx + 1).toNat := (congrFun (fM150 107 (by decide)) _)
        have vM15_3 : M15 107 (cx + 3).toNat = M10 107 (cx + 3).toNat := (congrFun (fM150 107 (by decide)) _)
        have vM15_4 : M15 107 (cx + 4).toNat = M10 107 (cx + 4).toNat := (congrFun (fM150 107 (by decide)) _)
        have unM15 : UN M M15 cx := UN.nx unM10 (fM150 107 (by decide))
        have loM15 : LO M M15 (M 97 21) := LO.tr loM10 (LO.eq (fM150 108 (by decide)) (fM150 109 (by decide)))
        have k0M15 : M15 107 cx.toNat = hd := vM15_0.trans k0M10
        have nmM15 : M 97 21 ≤ M15 97 21 ∧ M15 97 21 ≤ M15 97 13 ∧ M 97 13 < M15 97 13 := (by omega)
        have nclM15 : M15 97 19 = M 97 19 + 1 := (by omega)
        have k1aM15 : K1a (M15 97 18) (M15 107 (cx + 1).toNat) hd := K1a.nx k1aM10 (by omega) vM15_1
        have k3M15 : M15 107 (cx + 3).toNat = M 97 21 := vM15_3.trans k3M10
        have y1aM15 : Y1a (M15 97 18) (M15 107 (cx + 1).toNat) hd (W (i + 1)) := Y1a.nx y1aM10 (by omega) vM15_1
        have k4M15 : K4 M15 (M 97 21) (M15 107 (cx + 4).toNat) := K4.nx k4M10 (by omega) (fM150 108 (by decide)) (fM150 109 (by decide)) rfl vM15_4
        have k4nM15 : M15 107 (cx + 4).toNat ≤ M15 97 21 := (by omega)
        have y4M15 : Y4 M15 (M 97 21) (M15 107 (cx + 4).toNat) (yF K W hd i lv) := Y4.nx y4M10 (by omega) (fM150 108 (by decide)) (fM150 109 (by decide)) rfl vM15_4
        have nvM15 := STG.numv tzM10 sgM10 (by omega) xxM15
        have sgM15 : STG K W S E m M15 (sN K W 0 5 (sW K W 215533 (g165 K W hd i lv))) := STG.num0 tzM10 sgM10 (by omega) xxM15 (by omega)
        refine g_iast (pc' := 224) dX10_readClause_223 rfl rfl (by omega) (by omega) ⟨by omega, by omega⟩ (fun M16 hM16 => ?_)
        have iM16 : IM M16 := IM.wr iM15 hM16 (by unfold okv; first | decide | omega)
        have fM16 : Fr (fun c => c = 97 ∨ (107 ≤ c ∧ c ≤ 111)) M M16 := Fr.wr fM15 hM16 (by first | decide | omega | (dsimp only; omega))
        have q97_12_M16 : (M16 97 12 = M 97 12) := (show M16 97 12 = M15 97 12 by rw [hM16]; exact mu_ne _ _ (by first | decide | omega)).trans q97_12_M15
        have q97_10_M16 : (M16 97 10 = M 97 10) := (show M16 97 10 = M15 97 10 by rw [hM16]; exact mu_ne _ _ (by first | decide | omega)).trans q97_10_M15
        have q97_44_M16 : (M16 97 44 = M 97 44) := (show M16 97 44 = M15 97 44 by rw [hM16]; exact mu_ne _ _ (by first | decide | omega)).trans q97_44_M15
        have q97_33_M16 : (M16 97 33 = M 97 33) := (show M16 97 33 = M15 97 33 by rw [hM16]; exact mu_ne _ _ (by first | decide | omega)).trans q97_33_M15
        have wM16_97_12 : M16 97 12 = M15 97 12 := by rw [hM16]; exact mu_ne _ _ (by first | decide | omega)
        have wM16_97_13 : M16 97 13 = M15 97 13 := by rw [hM16]; exact mu_ne _ _ (by first | decide | omega)
        have wM16_97_14 : M16 97 14 = M15 97 14 := by rw [hM16]; exact mu_ne _ _ (by first | decide | omega)
        have wM16_97_15 : M16 97 15 = M15 97 15 := by rw [hM16]; exact mu_ne _ _ (by first | decide | omega)
        have wM16_97_16 : M16 97 16 = M15 97 16 := by rw [hM16]; exact mu_ne _ _ (by first | decide | omega)
        have wM16_97_17 : M16 97 17 = M15 97 17 := by rw [hM16]; exact mu_ne _ _ (by first | decide | omega)
        have wM16_97_18 : M16 97 18 = M15 97 18 := by rw [hM16]; exact mu_ne _ _ (by first | decide | omega)
        have wM16_97_19 : M16 97 19 = M15 97 19 := by rw [hM16]; exact mu_ne _ _ (by first | decide | omega)
        have wM16_97_21 : M16 97 21 = M15 97 21 := by rw [hM16]; exact mu_ne _ _ (by first | decide | omega)
        have wM16_97_24 : M16 97 24 = M15 97 24 := by rw [hM16]; exact mu_ne _ _ (by first | decide | omega)
        have vM16_0 : M16 107 cx.toNat = M15 107 cx.toNat := (by rw [hM16]; exact mu_ne _ _ (by first | decide | omega))
        have vM16_3 : M16 107 (cx + 3).toNat = M15 107 (cx + 3).toNat := (by rw [hM16]; exact mu_ne _ _ (by first | decide | omega))
        have vM16_4 : M16 107 (cx + 4).toNat = M15 107 (cx + 4).toNat := (by rw [hM16]; exact mu_ne _ _ (by first | decide | omega))
        have unM16 : UN M M16 cx := UN.wr unM15 hM16 (by omega)
        have loM16 : LO M M16 (M 97 21) := LO.tr loM15 (LO.eq (by rw [hM16, mu_cell _ _ (by decide)]) (by rw [hM16, mu_cell _ _ (by decide)]))
        have tkM16 : TK M16 := TK.eq tkM15 (show M16 97 12 = M15 97 12 by rw [hM16]; exact mu_ne _ _ (by first | decide | omega)) (show M16 97 13 = M15 97 13 by rw [hM16]; exact mu_ne _ _ (by first | decide | omega)) (show M16 97 14 = M15 97 14 by rw [hM16]; exact mu_ne _ _ (by first | decide | omega)) (show M16 97 15 = M15 97 15 by rw [hM16]; exact mu_ne _ _ (by first | decide | omega)) (show M16 97 16 = M15 97 16 by rw [hM16]; exact mu_ne _ _ (by first | decide | omega))
        have k0M16 : M16 107 cx.toNat = hd := vM16_0.trans k0M15
        have nmM16 : M 97 21 ≤ M16 97 21 ∧ M16 97 21 ≤ M16 97 13 ∧ M 97 13 < M16 97 13 := (by omega)
        have nclM16 : M16 97 19 = M 97 19 + 1 := (by omega)
        have k3M16 : M16 107 (cx + 3).toNat = M 97 21 := vM16_3.trans k3M15
        have k4M16 : K4 M16 (M 97 21) (M16 107 (cx + 4).toNat) := K4.nx k4M15 (by omega) (by rw [hM16, mu_cell _ _ (by decide)]) (by rw [hM16, mu_cell _ _ (by decide)]) rfl vM16_4
        have k4nM16 : M16 107 (cx + 4).toNat ≤ M16 97 21 := (by omega)
        have y4M16 : Y4 M16 (M 97 21) (M16 107 (cx + 4).toNat) (yF K W hd i lv) := Y4.nx y4M15 (by omega) (by rw [hM16, mu_cell _ _ (by decide)]) (by rw [hM16, mu_cell _ _ (by decide)]) rfl vM16_4
        have xM16_1 : M16 107 (cx + 1).toNat = z14 := by rw [hM16]; exact mu_at _ _ _ _
        have k1M16 : K1 (M16 97 18) (M16 107 (cx + 1).toNat) hd := (by unfold K1; omega)
        have y1M16 : YV (M16 97 18) (M16 107 (cx + 1).toNat) (Y1v K W hd i lv) := (fun z => by first | exact absurd z (by omega) | exact xM16_1.trans ((nvM15 (by omega)).trans (Y1v_n (by omega)).symm))
        have tzM16 : TZM M16 K W S E m := TZM.eq tzM15 (by rw [hM16]; exact mu_cell _ _ (by decide)) (show M16 97 12 = M15 97 12 by rw [hM16]; exact mu_ne _ _ (by first | decide | omega))
        have sgM16 : STG K W S E m M16 (sN K W 0 5 (sW K W 215533 (g165 K W hd i lv))) := STG.eq sgM15 (by omega) (by omega) (by omega) (by omega) (by omega) (by omega) (by omega)
        refine g_sub [0, 1, 2] rfl ?_
        exact j_X10_readClause_z_224 X M hi htk hbad hn19 hnc hcl K W S E m i lv hz hat h24 hd cx M16 iM16 fM16 q97_12_M16 q97_10_M16 q97_44_M16 q97_33_M16 (by omega) (by omega) hds tzM16 unM16 loM16 tkM16 k0M16 (by omega) (by omega) k1M16 k3M16 k4M16 (by omega) y1M16 y4M16 (by
            unfold g224
            rw [if_neg (by omega)]; exact sgM16)
      · refine g_iconst (pc' := 215) dX10_readClause_214 rfl ?_
        refine g_goto (tgt := 223) dX10_readClause_215 rfl ?_
        refine g_iast (pc' := 224) dX10_readClause_223 rfl rfl (by omega) (by omega) (by decide) (fun M17 hM17 => ?_)
        have iM17 : IM M17 := IM.wr iM10 hM17 (by unfold okv; first | decide | omega)
        have fM17 : Fr (fun c => c = 97 ∨ (107 ≤ c ∧ c ≤ 111)) M M17 := Fr.wr fM10 hM17 (by first | decide | omega | (dsimp only; omega))
        have q97_12_M17 : (M17 97 12 = M 97 12) := (show M17 97 12 = M10 97 12 by rw [hM17]; exact mu_ne _ _ (by first | decide | omega)).trans q97_12_M10
        have q97_10_M17 : (M17 97 10 = M 97 10) := (show M17 97 10 = M10 97 10 by rw [hM17]; exact mu_ne _ _ (by first | decide | omega)).trans q97_10_M10
        have q97_44_M17 : (M17 97 44 = M 97 44) := (show M17 97 44 = M10 97 44 by rw [hM17]; exact mu_ne _ _ (by first | decide | omega)).trans q97_44_M10
        have q97_33_M17 : (M17 97 33 = M 97 33) := (show M17 97 33 = M10 97 33 by rw [hM17]; exact mu_ne _ _ (by first | decide | omega)).trans q97_33_M10
        have wM17_97_12 : M17 97 12 = M10 97 12 := by rw [hM17]; exact mu_ne _ _ (by first | decide | omega)
        have wM17_97_13 : M17 97 13 = M10 97 13 := by rw [hM17]; exact mu_ne _ _ (by first | decide | omega)
        have wM17_97_14 : M17 97 14 = M10 97 14 := by rw [hM17]; exact mu_ne _ _ (by first | decide | omega)
        have wM17_97_15 : M17 97 15 = M10 97 15 := by rw [hM17]; exact mu_ne _ _ (by first | decide | omega)
        have wM17_97_16 : M17 97 16 = M10 97 16 := by rw [hM17]; exact mu_ne _ _ (by first | decide | omega)
        have wM17_97_17 : M17 97 17 = M10 97 17 := by rw [hM17]; exact mu_ne _ _ (by first | decide | omega)
        have wM17_97_18 : M17 97 18 = M10 97 18 := by rw [hM17]; exact mu_ne _ _ (by first | decide | omega)
        have wM17_97_19 : M17 97 19 = M10 97 19 := by rw [hM17]; exact mu_ne _ _ (by first | decide | omega)
        have wM17_97_21 : M17 97 21 = M10 97 21 := by rw [hM17]; exact mu_ne _ _ (by first | decide | omega)
        have wM17_97_24 : M17 97 24 = M10 97 24 := by rw [hM17]; exact mu_ne _ _ (by first | decide | omega)
        have vM17_0 : M17 107 cx.toNat = M10 107 cx.toNat := (by rw [hM17]; exact mu_ne _ _ (by first | decide | omega))
        have vM17_3 : M17 107 (cx + 3).toNat = M10 107 (cx + 3).toNat := (by rw [hM17]; exact mu_ne _ _ (by first | decide | omega))
        have vM17_4 : M17 107 (cx + 4).toNat = M10 107 (cx + 4).toNat := (by rw [hM17]; exact mu_ne _ _ (by first | decide | omega))
        have unM17 : UN M M17 cx := UN.wr unM10 hM17 (by omega)
        have loM17 : LO M M17 (M 97 21) := LO.tr loM10 (LO.eq (by rw [hM17, mu_cell _ _ (by decide)]) (by rw [hM17, mu_cell _ _ (by decide)]))
        have tkM17 : TK M17 := TK.eq tkM10 (show M17 97 12 = M10 97 12 by rw [hM17]; exact mu_ne _ _ (by first | decide | omega)) (show M17 97 13 = M10 97 13 by rw [hM17]; exact mu_ne _ _ (by first | decide | omega)) (show M17 97 14 = M10 97 14 by rw [hM17]; exact mu_ne _ _ (by first | decide | omega)) (show M17 97 15 = M10 97 15 by rw [hM17]; exact mu_ne _ _ (by first | decide | omega)) (show M17 97 16 = M10 97 16 by rw [hM17]; exact mu_ne _ _ (by first | decide | omega))
        have k0M17 : M17 107 cx.toNat = hd := vM17_0.trans k0M10
        have nmM17 : M 97 21 ≤ M17 97 21 ∧ M17 97 21 ≤ M17 97 13 ∧ M 97 13 < M17 97 13 := (by omega)
        have nclM17 : M17 97 19 = M 97 19 + 1 := (by omega)
        have k3M17 : M17 107 (cx + 3).toNat = M 97 21 := vM17_3.trans k3M10
        have k4M17 : K4 M17 (M 97 21) (M17 107 (cx + 4).toNat) := K4.nx k4M10 (by omega) (by rw [hM17, mu_cell _ _ (by decide)]) (by rw [hM17, mu_cell _ _ (by decide)]) rfl vM17_4
        have k4nM17 : M17 107 (cx + 4).toNat ≤ M17 97 21 := (by omega)
        have y4M17 : Y4 M17 (M 97 21) (M17 107 (cx + 4).toNat) (yF K W hd i lv) := Y4.nx y4M10 (by omega) (by rw [hM17, mu_cell _ _ (by decide)]) (by rw [hM17, mu_cell _ _ (by decide)]) rfl vM17_4
        have xM17_1 : M17 107 (cx + 1).toNat = 0 := by rw [hM17]; exact mu_at _ _ _ _
        have k1M17 : K1 (M17 97 18) (M17 107 (cx + 1).toNat) hd := (by unfold K1; omega)
        have y1M17 : YV (M17 97 18) (M17 107 (cx + 1).toNat) (Y1v K W hd i lv) := (fun z => by first | exact absurd z (by omega) | exact xM17_1.trans ((trivial (by omega)).trans (Y1v_n (by omega)).symm))
        have tzM17 : TZM M17 K W S E m := TZM.eq tzM10 (by rw [hM17]; exact mu_cell _ _ (by decide)) (show M17 97 12 = M10 97 12 by rw [hM17]; exact mu_ne _ _ (by first | decide | omega))
        have sgM17 : STG K W S E m M17 (sW K W 215533 (g165 K W hd i lv)) := STG.eq sgM10 (by omega) (by omega) (by omega) (by omega) (by omega) (by omega) (by omega)
        refine g_sub [0, 1, 2] rfl ?_
        exact j_X10_readClause_z_224 X M hi htk hbad hn19 hnc hcl K W S E m i lv hz hat h24 hd cx M17 iM17 fM17 q97_12_M17 q97_10_M17 q97_44_M17 q97_33_M17 (by omega) (by omega) hds tzM17 unM17 loM17 tkM17 k0M17 (by omega) (by omega) k1M17 k3M17 k4M17 (by omega) y1M17 y4M17 (by
            unfold g224
            rw [if_neg (by omega)]; unfold sFr; exact STG.stc sgM17 (by omega) (sN_0 K W 0 5))
set_option maxHeartbeats 4000000 in
set_option maxRecDepth 100000 in
theorem j_X10_readClause_z_141 (X : Cx) (M : Mm) (hi : IM M) (htk : TK M) (hbad : M 97 18 = 0) (hn19 : 0 ≤ M 97 19 ∧ M 97 19 ≤ 12) (hnc : 0 ≤ M 97 21 ∧ M 97 21 ≤ M 97 13) (hcl : CLS M) (K W S E : Nat → Int) (m i : Nat) (lv : Int) (hz : TZM M K W S E m) (hat : AT K W S E m M i) (h24 : M 97 24 = lv) (hd : Int) (cx : Int) (M1 : Mm) (ic1 : IM M1) (fr1 : Fr (fun c => c = 97 ∨ (107 ≤ c ∧ c ≤ 111)) M M1) (q97_12 : (M1 97 12 = M 97 12)) (q97_10 : (M1 97 10 = M 97 10)) (q97_44 : (M1 97 44 = M 97 44)) (q97_33 : (M1 97 33 = M 97 33)) (hhd : 0 ≤ hd ∧ hd ≤ 2) (hcx : cx = 8 * M 97 19 ∧ M 97 19 < 12) (hds : HDs K W i hd) (tz1 : TZM M1 K W S E m) (un1 : UN M M1 cx) (lo1 : LO M M1 (M 97 21)) (tk1 : TK M1) (k01 : M1 107 cx.toNat = hd) (nm1 : M 97 21 ≤ M1 97 21 ∧ M1 97 21 ≤ M1 97 13 ∧ M 97 13 < M1 97 13) (ncl1 : M1 97 19 = M 97 19 + 1) (k1a1 : K1a (M1 97 18) (M1 107 (cx + 1).toNat) hd) (y1a1 : Y1a (M1 97 18) (M1 107 (cx + 1).toNat) hd (W (i + 1))) (jb : M1 97 21 = M 97 21) (sg1 : STG K W S E m M1 (g141 K W hd i lv)) : G X 7 RX10 cX10_readClause 4 none (Qv (fun M1 => IM M1 ∧ Fr (fun c => c = 97 ∨ (107 ≤ c ∧ c ≤ 111)) M M1 ∧ M1 97 12 = M 97 12 ∧ M1 97 10 = M 97 10 ∧ M1 97 44 = M 97 44 ∧ M1 97 33 = M 97 33 ∧ (CLQ K W S E m i lv (M 97 19) M1 ∧ TK M1 ∧ (0 ≤ M1 97 19 ∧ M1 97 19 ≤ 12) ∧ (0 ≤ M1 97 21 ∧ M1 97 21 ≤ M1 97 13) ∧ M 97 13 ≤ M1 97 13 ∧ CB M1 ∧ (M1 97 18 = 0 → CLM K W i lv M1 (8 * M 97 19) ∧ UN M M1 (8 * M 97 19) ∧ LO M M1 (M 97 21) ∧ M 97 21 ≤ M1 97 21)))) 141 [(1, vi hd), (2, vi cx), (0, vr X 97)] [] M1 := by
  have p12 := hi.2.2.2.1
  have tb1 := tk1.b
  have lt1 := tk1.lt
  refine g_aload_n (pc' := 142) 2 dX10_readClause_141 rfl rfl ?_
  refine g_getR (pc' := 145) dX10_readClause_142 rfl f_X10_43 rfl rfl ?_
  refine g_iload_n (pc' := 146) 1 dX10_readClause_145 rfl rfl ?_
  refine g_iconst (pc' := 147) dX10_readClause_146 rfl ?_
  refine g_iadd (pc' := 148) dX10_readClause_147 rfl ?_
  refine g_aload_n (pc' := 149) 2 dX10_readClause_148 rfl rfl ?_
  refine g_getI (pc' := 152) dX10_readClause_149 rfl f_X10_191 rfl rfl (fun v2 ev2 rv2 => ?_)
  refine g_iast (pc' := 153) dX10_readClause_152 rfl rfl (by omega) (by omega) rv2 (fun M3 hM3 => ?_)
  have iM3 : IM M3 := IM.wr ic1 hM3 (by unfold okv; first | decide | omega)
  have fM3 : Fr (fun c => c = 97 ∨ (107 ≤ c ∧ c ≤ 111)) M M3 := Fr.wr fr1 hM3 (by first | decide | omega | (dsimp only; omega))
  have q97_12_M3 : (M3 97 12 = M 97 12) := (show M3 97 12 = M1 97 12 by rw [hM3]; exact mu_ne _ _ (by first | decide | omega)).trans q97_12
  have q97_10_M3 : (M3 97 10 = M 97 10) := (show M3 97 10 = M1 97 10 by rw [hM3]; exact mu_ne _ _ (by first | decide | omega)).trans q97_10
  have q97_44_M3 : (M3 97 44 = M 97 44) := (show M3 97 44 = M1 97 44 by rw [hM3]; exact mu_ne _ _ (by first | decide | omega)).trans q97_44
  have q97_33_M3 : (M3 97 33 = M 97 33) := (show M3 97 33 = M1 97 33 by rw [hM3]; exact mu_ne _ _ (by first | decide | omega)).trans q97_33
  have wM3_97_12 : M3 97 12 = M1 97 12 := by rw [hM3]; exact mu_ne _ _ (by first | decide | omega)
  have wM3_97_13 : M3 97 13 = M1 97 13 := by rw [hM3]; exact mu_ne _ _ (by first | decide | omega)
  have wM3_97_14 : M3 97 14 = M1 97 14 := by rw [hM3]; exact mu_ne _ _ (by first | decide | omega)
  have wM3_97_15 : M3 97 15 = M1 97 15 := by rw [hM3]; exact mu_ne _ _ (by first | decide | omega)
  have wM3_97_16 : M3 97 16 = M1 97 16 := by rw [hM3]; exact mu_ne _ _ (by first | decide | omega)
  have wM3_97_17 : M3 97 17 = M1 97 17 := by rw [hM3]; exact mu_ne _ _ (by first | decide | omega)
  have wM3_97_18 : M3 97 18 = M1 97 18 := by rw [hM3]; exact mu_ne _ _ (by first | decide | omega)
  have wM3_97_19 : M3 97 19 = M1 97 19 := by rw [hM3]; exact mu_ne _ _ (by first | decide | omega)
  have wM3_97_21 : M3 97 21 = M1 97 21 := by rw [hM3]; exact mu_ne _ _ (by first | decide | omega)
  have wM3_97_24 : M3 97 24 = M1 97 24 := by rw [hM3]; exact mu_ne _ _ (by first | decide | omega)
  have vM3_0 : M3 107 cx.toNat = M1 107 cx.toNat := (by rw [hM3]; exact mu_ne _ _ (by first | decide | omega))
  have vM3_1 : M3 107 (cx + 1).toNat = M1 107 (cx + 1).toNat := (by rw [hM3]; exact mu_ne _ _ (by first | decide | omega))
  have unM3 : UN M M3 cx := UN.wr un1 hM3 (by omega)
  have loM3 : LO M M3 (M 97 21) := LO.tr lo1 (LO.eq (by rw [hM3, mu_cell _ _ (by decide)]) (by rw [hM3, mu_cell _ _ (by decide)]))
  have tkM3 : TK M3 := TK.eq tk1 (show M3 97 12 = M1 97 12 by rw [hM3]; exact mu_ne _ _ (by first | decide | omega)) (show M3 97 13 = M1 97 13 by rw [hM3]; exact mu_ne _ _ (by first | decide | omega)) (show M3 97 14 = M1 97 14 by rw [hM3]; exact mu_ne _ _ (by first | decide | omega)) (show M3 97 15 = M1 97 15 by rw [hM3]; exact mu_ne _ _ (by first | decide | omega)) (show M3 97 16 = M1 97 16 by rw [hM3]; exact mu_ne _ _ (by first | decide | omega))
  have k0M3 : M3 107 cx.toNat = hd := vM3_0.trans k01
  have nmM3 : M 97 21 ≤ M3 97 21 ∧ M3 97 21 ≤ M3 97 13 ∧ M 97 13 < M3 97 13 := (by omega)
  have nclM3 : M3 97 19 = M 97 19 + 1 := (by omega)
  have k1aM3 : K1a (M3 97 18) (M3 107 (cx + 1).toNat) hd := K1a.nx k1a1 (by omega) vM3_1
  have y1aM3 : Y1a (M3 97 18) (M3 107 (cx + 1).toNat) hd (W (i + 1)) := Y1a.nx y1a1 (by omega) vM3_1
  have xM3_3 : M3 107 (cx + 3).toNat = v2 := by rw [hM3]; exact mu_at _ _ _ _
  have k3M3 : M3 107 (cx + 3).toNat = M 97 21 := (by omega)
  have tzM3 : TZM M3 K W S E m := TZM.eq tz1 (by rw [hM3]; exact mu_cell _ _ (by decide)) (show M3 97 12 = M1 97 12 by rw [hM3]; exact mu_ne _ _ (by first | decide | omega))
  have sgM3 : STG K W S E m M3 (g141 K W hd i lv) := STG.eq sg1 (by omega) (by omega) (by omega) (by omega) (by omega) (by omega) (by omega)
  refine g_aload_n (pc' := 154) 2 dX10_readClause_153 rfl rfl ?_
  refine g_getI (pc' := 157) dX10_readClause_154 rfl f_X10_154 rfl rfl (fun v4 ev4 rv4 => ?_)
  refine g_if_ne (pc' := 160) (tgt := 165) rv4 dX10_readClause_157 rfl rfl (fun c5 => ?_) (fun c5 => ?_)
  · refine g_sub [0, 1, 2] rfl ?_
    exact j_X10_readClause_z_165 X M hi htk hbad hn19 hnc hcl K W S E m i lv hz hat h24 hd cx M3 iM3 fM3 q97_12_M3 q97_10_M3 q97_44_M3 q97_33_M3 (by omega) (by omega) hds tzM3 unM3 loM3 tkM3 k0M3 (by omega) (by omega) k1aM3 k3M3 (RX.bad (by omega)) y1aM3 (Y4.bad (by omega)) (STG.stc sgM3 (by omega) (sE_0 K W false))
  · obtain ⟨jj, ll, ja, jb, jc, jd, je⟩ := STG.ex_pre2 sgM3 (by omega)
    refine g_aload_n (pc' := 161) 2 dX10_readClause_160 rfl rfl ?_
    refine g_iconst (pc' := 162) dX10_readClause_161 rfl ?_
    refine g_callVv (pc' := 165) (As := [vi 0]) (b := 97) (S := []) dX10_readClause_162 rfl m_X10_287 w_X10_readExpression (c_X10_readExpression_z X M3 iM3 0 (by decide) tkM3 (by omega) (by omega) K W S E m jj ll false (Or.inr ⟨rfl, rfl⟩) tzM3 ja jb) rfl ⟨_, _, _, rfl, rfl, rfl⟩ (by decide) (by decide) rfl (Nat.le_of_ble_eq_true rfl) (fun M7 q6 => ?_)
    obtain ⟨iM7, fM70, eM7_97_12, eM7_97_19, eM7_97_10, eM7_97_44, eM7_97_33, pM7⟩ := q6
    have fM7 : Fr (fun c => c = 97 ∨ (107 ≤ c ∧ c ≤ 111)) M M7 := Fr.tr fM3 fM70 fi_53
    have q97_12_M7 : (M7 97 12 = M 97 12) := eM7_97_12.trans q97_12_M3
    have q97_10_M7 : (M7 97 10 = M 97 10) := eM7_97_10.trans q97_10_M3
    have q97_44_M7 : (M7 97 44 = M 97 44) := eM7_97_44.trans q97_44_M3
    have q97_33_M7 : (M7 97 33 = M 97 33) := eM7_97_33.trans q97_33_M3
    have wM7_97_12 : M7 97 12 = M3 97 12 := eM7_97_12
    have wM7_97_19 : M7 97 19 = M3 97 19 := eM7_97_19
    have tzM7 : TZM M7 K W S E m := TZM.eq tzM3 (fM70 106 (by decide)) eM7_97_12
    obtain ⟨xxM7, zqM7, pM7⟩ := pM7
    obtain ⟨sM7x, xM7x, lM7x, tkM7, aM7x⟩ := pM7
    have tbM7 := tkM7.b
    have srM7 := sM7x.ar
    have vM7_0 : M7 107 cx.toNat = M3 107 cx.toNat := (congrFun (fM70 107 (by decide)) _)
    have vM7_1 : M7 107 (cx + 1).toNat = M3 107 (cx + 1).toNat := (congrFun (fM70 107 (by decide)) _)
    have vM7_3 : M7 107 (cx + 3).toNat = M3 107 (cx + 3).toNat := (congrFun (fM70 107 (by decide)) _)
    have unM7 : UN M M7 cx := UN.nx unM3 (fM70 107 (by decide))
    have loM7 : LO M M7 (M 97 21) := LO.tr loM3 (LO.mo lM7x (by omega))
    have k0M7 : M7 107 cx.toNat = hd := vM7_0.trans k0M3
    have nmM7 : M 97 21 ≤ M7 97 21 ∧ M7 97 21 ≤ M7 97 13 ∧ M 97 13 < M7 97 13 := (by omega)
    have nclM7 : M7 97 19 = M 97 19 + 1 := (by omega)
    have k1aM7 : K1a (M7 97 18) (M7 107 (cx + 1).toNat) hd := K1a.nx k1aM3 (by omega) vM7_1
    have y1aM7 : Y1a (M7 97 18) (M7 107 (cx + 1).toNat) hd (W (i + 1)) := Y1a.nx y1aM3 (by omega) vM7_1
    have k3M7 : M7 107 (cx + 3).toNat = M 97 21 := vM7_3.trans k3M3
    have ryM7 : Y4 M7 (M 97 21) (M7 97 21) (yF K W hd i lv) := fun z => by
      have q := zqM7 z
      rw [show M3 97 21 = M 97 21 by omega] at q
      unfold yF
      rw [jd, je]
      exact q
    have rxM7 : RX M7 (M 97 21) := RX.e xM7x (by omega)
    have sgM7 : STG K W S E m M7 (sE K W false (g141 K W hd i lv)) := (by rw [jc false]; exact xxM7)
    refine g_sub [0, 1, 2] rfl ?_
    exact j_X10_readClause_z_165 X M hi htk hbad hn19 hnc hcl K W S E m i lv hz hat h24 hd cx M7 iM7 fM7 q97_12_M7 q97_10_M7 q97_44_M7 q97_33_M7 (by omega) (by omega) hds tzM7 unM7 loM7 tkM7 k0M7 (by omega) (by omega) k1aM7 k3M7 rxM7 y1aM7 ryM7 sgM7
set_option maxHeartbeats 4000000 in
set_option maxRecDepth 100000 in
theorem l_X10_readClause_z_85 (X : Cx) (M : Mm) (hi : IM M) (htk : TK M) (hbad : M 97 18 = 0) (hn19 : 0 ≤ M 97 19 ∧ M 97 19 ≤ 12) (hnc : 0 ≤ M 97 21 ∧ M 97 21 ≤ M 97 13) (hcl : CLS M) (K W S E : Nat → Int) (m i : Nat) (lv : Int) (hz : TZM M K W S E m) (hat : AT K W S E m M i) (h24 : M 97 24 = lv) : ∀ (kk : Nat) (hd : Int) (cx : Int) (k : Int) (M1 : Mm) (ic1 : IM M1) (fr1 : Fr (fun c => c = 97 ∨ (107 ≤ c ∧ c ≤ 111)) M M1) (q97_12 : (M1 97 12 = M 97 12)) (q97_10 : (M1 97 10 = M 97 10)) (q97_44 : (M1 97 44 = M 97 44)) (q97_33 : (M1 97 33 = M 97 33)) (hhd : 0 ≤ hd ∧ hd ≤ 2) (hcx : cx = 8 * M 97 19 ∧ M 97 19 < 12) (hds : HDs K W i hd) (tz1 : TZM M1 K W S E m) (e19 : M1 97 19 = M 97 19) (un1 : UN M M1 cx) (lo1 : LO M M1 (M 97 21)) (tk1 : TK M1) (jm : M1 97 21 = M 97 21 ∧ M 97 13 < M1 97 13 ∧ M1 97 18 = 0) (hk : 0 ≤ k ∧ k ≤ 8) (at1 : AT K W S E m M1 (i + 1)) (l24 : M1 97 24 = lv), (8 - k).toNat = kk → G X 7 RX10 cX10_readClause 4 none (Qv (fun M1 => IM M1 ∧ Fr (fun c => c = 97 ∨ (107 ≤ c ∧ c ≤ 111)) M M1 ∧ M1 97 12 = M 97 12 ∧ M1 97 10 = M 97 10 ∧ M1 97 44 = M 97 44 ∧ M1 97 33 = M 97 33 ∧ (CLQ K W S E m i lv (M 97 19) M1 ∧ TK M1 ∧ (0 ≤ M1 97 19 ∧ M1 97 19 ≤ 12) ∧ (0 ≤ M1 97 21 ∧ M1 97 21 ≤ M1 97 13) ∧ M 97 13 ≤ M1 97 13 ∧ CB M1 ∧ (M1 97 18 = 0 → CLM K W i lv M1 (8 * M 97 19) ∧ UN M M1 (8 * M 97 19) ∧ LO M M1 (M 97 21) ∧ M 97 21 ≤ M1 97 21)))) 85 [(1, vi hd), (2, vi cx), (3, vi k), (0, vr X 97)] [] M1 := by
  intro kk
  induction kk using Nat.strongRecOn with
  | ind kk ih =>
    intro hd cx k M1 ic1 fr1 q97_12 q97_10 q97_44 q97_33 hhd hcx hds tz1 e19 un1 lo1 tk1 jm hk at1 l24 hmes
    have p12 := hi.2.2.2.1
    have tb1 := tk1.b
    have lt1 := tk1.lt
    refine g_iload_n (pc' := 86) 2 dX10_readClause_85 rfl rfl ?_
    refine g_bipush (pc' := 88) (v := 8) dX10_readClause_86 rfl (by decide) ?_
    refine g_ic_ge (pc' := 91) (tgt := 106) ⟨by omega, by omega⟩ (by decide) dX10_readClause_88 rfl rfl (fun c2 => ?_) (fun c2 => ?_)
    · refine g_aload_n (pc' := 107) 3 dX10_readClause_106 rfl rfl ?_
      refine g_getR (pc' := 110) dX10_readClause_107 rfl f_X10_43 rfl rfl ?_
      refine g_iload_n (pc' := 111) 1 dX10_readClause_110 rfl rfl ?_
      refine g_iload_n (pc' := 112) 0 dX10_readClause_111 rfl rfl ?_
      refine g_iast (pc' := 113) dX10_readClause_112 rfl rfl (by omega) (by omega) ⟨by omega, by omega⟩ (fun M3 hM3 => ?_)
      have iM3 : IM M3 := IM.wr ic1 hM3 (by unfold okv; first | decide | omega)
      have fM3 : Fr (fun c => c = 97 ∨ (107 ≤ c ∧ c ≤ 111)) M M3 := Fr.wr fr1 hM3 (by first | decide | omega | (dsimp only; omega))
      have q97_12_M3 : (M3 97 12 = M 97 12) := (show M3 97 12 = M1 97 12 by rw [hM3]; exact mu_ne _ _ (by first | decide | omega)).trans q97_12
      have q97_10_M3 : (M3 97 10 = M 97 10) := (show M3 97 10 = M1 97 10 by rw [hM3]; exact mu_ne _ _ (by first | decide | omega)).trans q97_10
      have q97_44_M3 : (M3 97 44 = M 97 44) := (show M3 97 44 = M1 97 44 by rw [hM3]; exact mu_ne _ _ (by first | decide | omega)).trans q97_44
      have q97_33_M3 : (M3 97 33 = M 97 33) := (show M3 97 33 = M1 97 33 by rw [hM3]; exact mu_ne _ _ (by first | decide | omega)).trans q97_33
      have wM3_97_12 : M3 97 12 = M1 97 12 := by rw [hM3]; exact mu_ne _ _ (by first | decide | omega)
      have wM3_97_13 : M3 97 13 = M1 97 13 := by rw [hM3]; exact mu_ne _ _ (by first | decide | omega)
      have wM3_97_14 : M3 97 14 = M1 97 14 := by rw [hM3]; exact mu_ne _ _ (by first | decide | omega)
      have wM3_97_15 : M3 97 15 = M1 97 15 := by rw [hM3]; exact mu_ne _ _ (by first | decide | omega)
      have wM3_97_16 : M3 97 16 = M1 97 16 := by rw [hM3]; exact mu_ne _ _ (by first | decide | omega)
      have wM3_97_17 : M3 97 17 = M1 97 17 := by rw [hM3]; exact mu_ne _ _ (by first | decide | omega)
      have wM3_97_18 : M3 97 18 = M1 97 18 := by rw [hM3]; exact mu_ne _ _ (by first | decide | omega)
      have wM3_97_19 : M3 97 19 = M1 97 19 := by rw [hM3]; exact mu_ne _ _ (by first | decide | omega)
      have wM3_97_21 : M3 97 21 = M1 97 21 := by rw [hM3]; exact mu_ne _ _ (by first | decide | omega)
      have wM3_97_24 : M3 97 24 = M1 97 24 := by rw [hM3]; exact mu_ne _ _ (by first | decide | omega)
      have unM3 : UN M M3 cx := UN.wr un1 hM3 (by omega)
      have loM3 : LO M M3 (M 97 21) := LO.tr lo1 (LO.eq (by rw [hM3, mu_cell _ _ (by decide)]) (by rw [hM3, mu_cell _ _ (by decide)]))
      have tkM3 : TK M3 := TK.eq tk1 (show M3 97 12 = M1 97 12 by rw [hM3]; exact mu_ne _ _ (by first | decide | omega)) (show M3 97 13 = M1 97 13 by rw [hM3]; exact mu_ne _ _ (by first | decide | omega)) (show M3 97 14 = M1 97 14 by rw [hM3]; exact mu_ne _ _ (by first | decide | omega)) (show M3 97 15 = M1 97 15 by rw [hM3]; exact mu_ne _ _ (by first | decide | omega)) (show M3 97 16 = M1 97 16 by rw [hM3]; exact mu_ne _ _ (by first | decide | omega))
      have k0M3 : M3 107 cx.toNat = hd := by rw [hM3]; exact mu_at _ _ _ _
      have tzM3 : TZM M3 K W S E m := TZM.eq tz1 (by rw [hM3]; exact mu_cell _ _ (by decide)) (show M3 97 12 = M1 97 12 by rw [hM3]; exact mu_ne _ _ (by first | decide | omega))
      have atM3 : AT K W S E m M3 (i + 1) := AT.eq at1 (by omega) (by omega) (by omega) (by omega) (by omega)
      refine g_aload_n (pc' := 114) 3 dX10_readClause_113 rfl rfl ?_
      refine g_dup (pc' := 115) dX10_readClause_114 rfl rfl ?_
      refine g_getI (pc' := 118) dX10_readClause_115 rfl f_X10_284 rfl rfl (fun v4 ev4 rv4 => ?_)
      refine g_iconst (pc' := 119) dX10_readClause_118 rfl ?_
      refine g_iadd (pc' := 120) dX10_readClause_119 rfl ?_
      refine g_putI (pc' := 123) dX10_readClause_120 rfl p_X10_284 rfl rfl ⟨by omega, by omega⟩ (fun M5 hM5 => ?_)
      have iM5 : IM M5 := IM.wr iM3 hM5 (by unfold okv; first | decide | omega)
      have fM5 : Fr (fun c => c = 97 ∨ (107 ≤ c ∧ c ≤ 111)) M M5 := Fr.wr fM3 hM5 (by first | decide | omega | (dsimp only; omega))
      have q97_12_M5 : (M5 97 12 = M 97 12) := (show M5 97 12 = M3 97 12 by rw [hM5]; exact mu_ne _ _ (by first | decide | omega)).trans q97_12_M3
      have q97_10_M5 : (M5 97 10 = M 97 10) := (show M5 97 10 = M3 97 10 by rw [hM5]; exact mu_ne _ _ (by first | decide | omega)).trans q97_10_M3
      have q97_44_M5 : (M5 97 44 = M 97 44) := (show M5 97 44 = M3 97 44 by rw [hM5]; exact mu_ne _ _ (by first | decide | omega)).trans q97_44_M3
      have q97_33_M5 : (M5 97 33 = M 97 33) := (show M5 97 33 = M3 97 33 by rw [hM5]; exact mu_ne _ _ (by first | decide | omega)).trans q97_33_M3
      have wM5_97_12 : M5 97 12 = M3 97 12 := by rw [hM5]; exact mu_ne _ _ (by first | decide | omega)
      have wM5_97_13 : M5 97 13 = M3 97 13 := by rw [hM5]; exact mu_ne _ _ (by first | decide | omega)
      have wM5_97_14 : M5 97 14 = M3 97 14 := by rw [hM5]; exact mu_ne _ _ (by first | decide | omega)
      have wM5_97_15 : M5 97 15 = M3 97 15 := by rw [hM5]; exact mu_ne _ _ (by first | decide | omega)
      have wM5_97_16 : M5 97 16 = M3 97 16 := by rw [hM5]; exact mu_ne _ _ (by first | decide | omega)
      have wM5_97_17 : M5 97 17 = M3 97 17 := by rw [hM5]; exact mu_ne _ _ (by first | decide | omega)
      have wM5_97_18 : M5 97 18 = M3 97 18 := by rw [hM5]; exact mu_ne _ _ (by first | decide | omega)
      have wM5_97_21 : M5 97 21 = M3 97 21 := by rw [hM5]; exact mu_ne _ _ (by first | decide | omega)
      have wM5_97_24 : M5 97 24 = M3 97 24 := by rw [hM5]; exact mu_ne _ _ (by first | decide | omega)
      have xM5_97_19 : M5 97 19 = v4 + 1 := by rw [hM5]; exact mu_at _ _ _ _
      have unM5 : UN M M5 cx := UN.nx unM3 (by rw [hM5, mu_cell _ _ (by decide)])
      have loM5 : LO M M5 (M 97 21) := LO.tr loM3 (LO.eq (by rw [hM5, mu_cell _ _ (by decide)]) (by rw [hM5, mu_cell _ _ (by decide)]))
      have tkM5 : TK M5 := TK.eq tkM3 (show M5 97 12 = M3 97 12 by rw [hM5]; exact mu_ne _ _ (by first | decide | omega)) (show M5 97 13 = M3 97 13 by rw [hM5]; exact mu_ne _ _ (by first | decide | omega)) (show M5 97 14 = M3 97 14 by rw [hM5]; exact mu_ne _ _ (by first | decide | omega)) (show M5 97 15 = M3 97 15 by rw [hM5]; exact mu_ne _ _ (by first | decide | omega)) (show M5 97 16 = M3 97 16 by rw [hM5]; exact mu_ne _ _ (by first | decide | omega))
      have k0M5 : M5 107 cx.toNat = hd := (show M5 107 cx.toNat = M3 107 cx.toNat by rw [hM5]; exact mu_ne _ _ (by first | decide | omega)).trans k0M3
      have nmM5 : M 97 21 ≤ M5 97 21 ∧ M5 97 21 ≤ M5 97 13 ∧ M 97 13 < M5 97 13 := (by omega)
      have nclM5 : M5 97 19 = M 97 19 + 1 := (by omega)
      have tzM5 : TZM M5 K W S E m := TZM.eq tzM3 (by rw [hM5]; exact mu_cell _ _ (by decide)) (show M5 97 12 = M3 97 12 by rw [hM5]; exact mu_ne _ _ (by first | decide | omega))
      have atM5 : AT K W S E m M5 (i + 1) := AT.eq atM3 (by omega) (by omega) (by omega) (by omega) (by omega)
      have sgM5 : STG K W S E m M5 (1, i + 1, lv) := STG.one atM5 (by omega) (by omega)
      refine g_iload_n (pc' := 124) 0 dX10_readClause_123 rfl rfl ?_
      refine g_iconst (pc' := 125) dX10_readClause_124 rfl ?_
      refine g_ic_ne (pc' := 128) (tgt := 141) ⟨by omega, by omega⟩ (by decide) dX10_readClause_125 rfl rfl (fun c6 => ?_) (fun c6 => ?_)
      · refine g_sub [0, 1, 3] rfl ?_
        exact j_X10_readClause_z_141 X M hi htk hbad hn19 hnc hcl K W S E m i lv hz hat h24 hd cx M5 iM5 fM5 q97_12_M5 q97_10_M5 q97_44_M5 q97_33_M5 (by omega) (by omega) hds tzM5 unM5 loM5 tkM5 k0M5 (by omega) (by omega) (K1a.no (by omega)) (fun y => absurd y (by omega)) (by omega) (by unfold g141; rw [if_neg (by omega)]; exact sgM5)
      · refine g_aload_n (pc' := 129) 3 dX10_readClause_128 rfl rfl ?_
        refine g_getR (pc' := 132) dX10_readClause_129 rfl f_X10_43 rfl rfl ?_
        refine g_iload_n (pc' := 133) 1 dX10_readClause_132 rfl rfl ?_
        refine g_iconst (pc' := 134) dX10_readClause_133 rfl ?_
        refine g_iadd (pc' := 135) dX10_readClause_134 rfl ?_
        refine g_aload_n (pc' := 136) 3 dX10_readClause_135 rfl rfl ?_
        refine g_iconst (pc' := 137) dX10_readClause_136 rfl ?_
        refine g_callVi (pc' := 140) (As := [vi 3]) (b := 97) (S := [vi (cx + 1), vr X 107]) dX10_readClause_137 rfl m_X10_245 w_X10_readNumber (c_X10_readNumber_x X M5 iM5 3 (by decide) tkM5 (by omega)) rfl ⟨_, _, _, rfl, rfl, rfl⟩ (by decide) (by decide) rfl (Nat.le_of_ble_eq_true rfl) (fun z8 M9 q7 => ?_)
        obtain ⟨iM9, fM90, eM9_97_12, eM9_97_19, eM9_97_21, eM9_97_24, eM9_97_27, eM9_97_28, eM9_97_10, eM9_97_44, eM9_97_33, pM9⟩ := q7
        have fM9 : Fr (fun c => c = 97 ∨ (107 ≤ c ∧ c ≤ 111)) M M9 := Fr.tr fM5 fM90 fi_52
        have q97_12_M9 : (M9 97 12 = M 97 12) := eM9_97_12.trans q97_12_M5
        have q97_10_M9 : (M9 97 10 = M 97 10) := eM9_97_10.trans q97_10_M5
        have q97_44_M9 : (M9 97 44 = M 97 44) := eM9_97_44.trans q97_44_M5
        have q97_33_M9 : (M9 97 33 = M 97 33) := eM9_97_33.trans q97_33_M5
        have wM9_97_12 : M9 97 12 = M5 97 12 := eM9_97_12
        have wM9_97_19 : M9 97 19 = M5 97 19 := eM9_97_19
        have wM9_97_21 : M9 97 21 = M5 97 21 := eM9_97_21
        have wM9_97_24 : M9 97 24 = M5 97 24 := eM9_97_24
        have xM9_97_19 : M9 97 19 = v4 + 1 := eM9_97_19.trans xM5_97_19
        have tzM9 : TZM M9 K W S E m := TZM.eq tzM5 (fM90 106 (by decide)) eM9_97_12
        obtain ⟨xxM9, pM9⟩ := pM9
        obtain ⟨aM9p, bM9p, cM9p, dM9p, kM9p⟩ := pM9
        have tkM9 : TK M9 := kM9p
        clear kM9p
        have tbM9 := tkM9.b
        have vM9_0 : M9 107 cx.toNat = M5 107 cx.toNat := (congrFun (fM90 107 (by decide)) _)
        have unM9 : UN M M9 cx := UN.nx unM5 (fM90 107 (by decide))
        have loM9 : LO M M9 (M 97 21) := LO.tr loM5 (LO.eq (fM90 108 (by decide)) (fM90 109 (by decide)))
        have k0M9 : M9 107 cx.toNat = hd := vM9_0.trans k0M5
        have nmM9 : M 97 21 ≤ M9 97 21 ∧ M9 97 21 ≤ M9 97 13 ∧ M 97 13 < M9 97 13 := (by omega)
        have nclM9 : M9 97 19 = M 97 19 + 1 := (by omega)
        have nvM9 := STG.numv tzM5 sgM5 (by omega) xxM9
        have sgM9 : STG K W S E m M9 (sN K W 0 3 (1, i + 1, lv)) := STG.num0 tzM5 sgM5 (by omega) xxM9 (by omega)
        refine g_iast (pc' := 141) dX10_readClause_140 rfl rfl (by omega) (by omega) ⟨by omega, by omega⟩ (fun M10 hM10 => ?_)
        have iM10 : IM M10 := IM.wr iM9 hM10 (by unfold okv; first | decide | omega)
        have fM10 : Fr (fun c => c = 97 ∨ (107 ≤ c ∧ c ≤ 111)) M M10 := Fr.wr fM9 hM10 (by first | decide | omega | (dsimp only; omega))
        have q97_12_M10 : (M10 97 12 = M 97 12) := (show M10 97 12 = M9 97 12 by rw [hM10]; exact mu_ne _ _ (by first | decide | omega)).trans q97_12_M9
        have q97_10_M10 : (M10 97 10 = M 97 10) := (show M10 97 10 = M9 97 10 by rw [hM10]; exact mu_ne _ _ (by first | decide | omega)).trans q97_10_M9
        have q97_44_M10 : (M10 97 44 = M 97 44) := (show M10 97 44 = M9 97 44 by rw [hM10]; exact mu_ne _ _ (by first | decide | omega)).trans q97_44_M9
        have q97_33_M10 : (M10 97 33 = M 97 33) := (show M10 97 33 = M9 97 33 by rw [hM10]; exact mu_ne _ _ (by first | decide | omega)).trans q97_33_M9
        have wM10_97_12 : M10 97 12 = M9 97 12 := by rw [hM10]; exact mu_ne _ _ (by first | decide | omega)
        have wM10_97_13 : M10 97 13 = M9 97 13 := by rw [hM10]; exact mu_ne _ _ (by first | decide | omega)
        have wM10_97_14 : M10 97 14 = M9 97 14 := by rw [hM10]; exact mu_ne _ _ (by first | decide | omega)
        have wM10_97_15 : M10 97 15 = M9 97 15 := by rw [hM10]; exact mu_ne _ _ (by first | decide | omega)
        have wM10_97_16 : M10 97 16 = M9 97 16 := by rw [hM10]; exact mu_ne _ _ (by first | decide | omega)
        have wM10_97_17 : M10 97 17 = M9 97 17 := by rw [hM10]; exact mu_ne _ _ (by first | decide | omega)
        have wM10_97_18 : M10 97 18 = M9 97 18 := by rw [hM10]; exact mu_ne _ _ (by first | decide | omega)
        have wM10_97_19 : M10 97 19 = M9 97 19 := by rw [hM10]; exact mu_ne _ _ (by first | decide | omega)
        have wM10_97_21 : M10 97 21 = M9 97 21 := by rw [hM10]; exact mu_ne _ _ (by first | decide | omega)
        have wM10_97_24 : M10 97 24 = M9 97 24 := by rw [hM10]; exact mu_ne _ _ (by first | decide | omega)
        have xM10_97_19 : M10 97 19 = v4 + 1 := (show M10 97 19 = M9 97 19 by rw [hM10]; exact mu_ne _ _ (by first | decide | omega)).trans xM9_97_19
        have vM10_0 : M10 107 cx.toNat = M9 107 cx.toNat := (by rw [hM10]; exact mu_ne _ _ (by first | decide | omega))
        have unM10 : UN M M10 cx := UN.wr unM9 hM10 (by omega)
        have loM10 : LO M M10 (M 97 21) := LO.tr loM9 (LO.eq (by rw [hM10, mu_cell _ _ (by decide)]) (by rw [hM10, mu_cell _ _ (by decide)]))
        have tkM10 : TK M10 := TK.eq tkM9 (show M10 97 12 = M9 97 12 by rw [hM10]; exact mu_ne _ _ (by first | decide | omega)) (show M10 97 13 = M9 97 13 by rw [hM10]; exact mu_ne _ _ (by first | decide | omega)) (show M10 97 14 = M9 97 14 by rw [hM10]; exact mu_ne _ _ (by first | decide | omega)) (show M10 97 15 = M9 97 15 by rw [hM10]; exact mu_ne _ _ (by first | decide | omega)) (show M10 97 16 = M9 97 16 by rw [hM10]; exact mu_ne _ _ (by first | decide | omega))
        have k0M10 : M10 107 cx.toNat = hd := vM10_0.trans k0M9
        have nmM10 : M 97 21 ≤ M10 97 21 ∧ M10 97 21 ≤ M10 97 13 ∧ M 97 13 < M10 97 13 := (by omega)
        have nclM10 : M10 97 19 = M 97 19 + 1 := (by omega)
        have xM10_1 : M10 107 (cx + 1).toNat = z8 := by rw [hM10]; exact mu_at _ _ _ _
        have k1aM10 : K1a (M10 97 18) (M10 107 (cx + 1).toNat) hd := (by unfold K1a; omega)
        have y1aM10 : Y1a (M10 97 18) (M10 107 (cx + 1).toNat) hd (W (i + 1)) := (fun _ z => xM10_1.trans (nvM9 (by omega)))
        have tzM10 : TZM M10 K W S E m := TZM.eq tzM9 (by rw [hM10]; exact mu_cell _ _ (by decide)) (show M10 97 12 = M9 97 12 by rw [hM10]; exact mu_ne _ _ (by first | decide | omega))
        have sgM10 : STG K W S E m M10 (sN K W 0 3 (1, i + 1, lv)) := STG.eq sgM9 (by omega) (by omega) (by omega) (by omega) (by omega) (by omega) (by omega)
        refine g_sub [0, 1, 3] rfl ?_
        exact j_X10_readClause_z_141 X M hi htk hbad hn19 hnc hcl K W S E m i lv hz hat h24 hd cx M10 iM10 fM10 q97_12_M10 q97_10_M10 q97_44_M10 q97_33_M10 (by omega) (by omega) hds tzM10 unM10 loM10 tkM10 k0M10 (by omega) (by omega) k1aM10 y1aM10 (by omega) (by unfold g141; rw [if_pos (by omega)]; exact sgM10)
    · refine g_aload_n (pc' := 92) 3 dX10_readClause_91 rfl rfl ?_
      refine g_getR (pc' := 95) dX10_readClause_92 rfl f_X10_43 rfl rfl ?_
      refine g_iload_n (pc' := 96) 1 dX10_readClause_95 rfl rfl ?_
      refine g_iload_n (pc' := 97) 2 dX10_readClause_96 rfl rfl ?_
      refine g_iadd (pc' := 98) dX10_readClause_97 rfl ?_
      refine g_iconst (pc' := 99) dX10_readClause_98 rfl ?_
      refine g_iast (pc' := 100) dX10_readClause_99 rfl rfl (by omega) (by omega) (by decide) (fun M11 hM11 => ?_)
      have iM11 : IM M11 := IM.wr ic1 hM11 (by unfold okv; first | decide | omega)
      have fM11 : Fr (fun c => c = 97 ∨ (107 ≤ c ∧ c ≤ 111)) M M11 := Fr.wr fr1 hM11 (by first | decide | omega | (dsimp only; omega))
      have q97_12_M11 : (M11 97 12 = M 97 12) := (show M11 97 12 = M1 97 12 by rw [hM11]; exact mu_ne _ _ (by first | decide | omega)).trans q97_12
      have q97_10_M11 : (M11 97 10 = M 97 10) := (show M11 97 10 = M1 97 10 by rw [hM11]; exact mu_ne _ _ (by first | decide | omega)).trans q97_10
      have q97_44_M11 : (M11 97 44 = M 97 44) := (show M11 97 44 = M1 97 44 by rw [hM11]; exact mu_ne _ _ (by first | decide | omega)).trans q97_44
      have q97_33_M11 : (M11 97 33 = M 97 33) := (show M11 97 33 = M1 97 33 by rw [hM11]; exact mu_ne _ _ (by first | decide | omega)).trans q97_33
      have wM11_97_12 : M11 97 12 = M1 97 12 := by rw [hM11]; exact mu_ne _ _ (by first | decide | omega)
      have wM11_97_13 : M11 97 13 = M1 97 13 := by rw [hM11]; exact mu_ne _ _ (by first | decide | omega)
      have wM11_97_14 : M11 97 14 = M1 97 14 := by rw [hM11]; exact mu_ne _ _ (by first | decide | omega)
      have wM11_97_15 : M11 97 15 = M1 97 15 := by rw [hM11]; exact mu_ne _ _ (by first | decide | omega)
      have wM11_97_16 : M11 97 16 = M1 97 16 := by rw [hM11]; exact mu_ne _ _ (by first | decide | omega)
      have wM11_97_17 : M11 97 17 = M1 97 17 := by rw [hM11]; exact mu_ne _ _ (by first | decide | omega)
      have wM11_97_18 : M11 97 18 = M1 97 18 := by rw [hM11]; exact mu_ne _ _ (by first | decide | omega)
      have wM11_97_19 : M11 97 19 = M1 97 19 := by rw [hM11]; exact mu_ne _ _ (by first | decide | omega)
      have wM11_97_21 : M11 97 21 = M1 97 21 := by rw [hM11]; exact mu_ne _ _ (by first | decide | omega)
      have wM11_97_24 : M11 97 24 = M1 97 24 := by rw [hM11]; exact mu_ne _ _ (by first | decide | omega)
      have unM11 : UN M M11 cx := UN.wr un1 hM11 (by omega)
      have loM11 : LO M M11 (M 97 21) := LO.tr lo1 (LO.eq (by rw [hM11, mu_cell _ _ (by decide)]) (by rw [hM11, mu_cell _ _ (by decide)]))
      have tkM11 : TK M11 := TK.eq tk1 (show M11 97 12 = M1 97 12 by rw [hM11]; exact mu_ne _ _ (by first | decide | omega)) (show M11 97 13 = M1 97 13 by rw [hM11]; exact mu_ne _ _ (by first | decide | omega)) (show M11 97 14 = M1 97 14 by rw [hM11]; exact mu_ne _ _ (by first | decide | omega)) (show M11 97 15 = M1 97 15 by rw [hM11]; exact mu_ne _ _ (by first | decide | omega)) (show M11 97 16 = M1 97 16 by rw [hM11]; exact mu_ne _ _ (by first | decide | omega))
      have tzM11 : TZM M11 K W S E m := TZM.eq tz1 (by rw [hM11]; exact mu_cell _ _ (by decide)) (show M11 97 12 = M1 97 12 by rw [hM11]; exact mu_ne _ _ (by first | decide | omega))
      have atM11 : AT K W S E m M11 (i + 1) := AT.eq at1 (by omega) (by omega) (by omega) (by omega) (by omega)
      refine g_iinc (pc' := 103) (L' := [(3, vi (k + 1)), (1, vi hd), (2, vi cx), (0, vr X 97)]) 2 dX10_readClause_100 rfl rfl (by decide) rfl ?_
      refine g_goto (tgt := 85) dX10_readClause_103 rfl ?_
      refine g_sub [1, 2, 0, 3] rfl ?_
      exact ih _ (by omega) hd cx (k + 1) M11 iM11 fM11 q97_12_M11 q97_10_M11 q97_44_M11 q97_33_M11 (by omega) (by omega) hds tzM11 (by omega) unM11 loM11 tkM11 (by omega) (by omega) atM11 (by omega) rfl
set_option maxHeartbeats 4000000 in
set_option maxRecDepth 100000 in
theorem j_X10_readClause_z_44 (X : Cx) (M : Mm) (hi : IM M) (htk : TK M) (hbad : M 97 18 = 0) (hn19 : 0 ≤ M 97 19 ∧ M 97 19 ≤ 12) (hnc : 0 ≤ M 97 21 ∧ M 97 21 ≤ M 97 13) (hcl : CLS M) (K W S E : Nat → Int) (m i : Nat) (lv : Int) (hz : TZM M K W S E m) (hat : AT K W S E m M i) (h24 : M 97 24 = lv) (hd : Int) (hhd : -1 ≤ hd ∧ hd ≤ 2) (hso : hd ≠ -1 → M 97 15 = 1) (hds0 : ((hd = 0 ∧ isWd K W i 20463086) ∨ (hd = 1 ∧ isWd K W i 402539) ∨ (hd = 2 ∧ isWd K W i 206220)) ∨ (hd = -1 ∧ ¬ isWd K W i 20463086 ∧ ¬ isWd K W i 402539 ∧ ¬ isWd K W i 206220)) : G X 7 RX10 cX10_readClause 4 none (Qv (fun M1 => IM M1 ∧ Fr (fun c => c = 97 ∨ (107 ≤ c ∧ c ≤ 111)) M M1 ∧ M1 97 12 = M 97 12 ∧ M1 97 10 = M 97 10 ∧ M1 97 44 = M 97 44 ∧ M1 97 33 = M 97 33 ∧ (CLQ K W S E m i lv (M 97 19) M1 ∧ TK M1 ∧ (0 ≤ M1 97 19 ∧ M1 97 19 ≤ 12) ∧ (0 ≤ M1 97 21 ∧ M1 97 21 ≤ M1 97 13) ∧ M 97 13 ≤ M1 97 13 ∧ CB M1 ∧ (M1 97 18 = 0 → CLM K W i lv M1 (8 * M 97 19) ∧ UN M M1 (8 * M 97 19) ∧ LO M M1 (M 97 21) ∧ M 97 21 ≤ M1 97 21)))) 44 [(1, vi hd), (0, vr X 97)] [] M := by
  have p12 := hi.2.2.2.1
  have tb0 := htk.b
  have lt0 := htk.lt
  have aw0 := hat.w hz
  refine g_aload_n (pc' := 45) 1 dX10_readClause_44 rfl rfl ?_
  refine g_iload_n (pc' := 46) 0 dX10_readClause_45 rfl rfl ?_
  refine g_iconst (pc' := 47) dX10_readClause_46 rfl ?_
  refine g_ic_eq (pc' := 50) (tgt := 63) ⟨by omega, by omega⟩ (by decide) dX10_readClause_47 rfl rfl (fun c2 => ?_) (fun c2 => ?_)
  · refine g_iconst (pc' := 64) dX10_readClause_63 rfl ?_
    refine g_callVv (pc' := 67) (As := [vi 0]) (b := 97) (S := []) dX10_readClause_64 rfl m_X10_187 w_X10_must (c_X10_must_x X M hi 0 (by decide) htk) rfl ⟨_, _, _, rfl, rfl, rfl⟩ (by decide) (by decide) rfl (Nat.le_of_ble_eq_true rfl) (fun M4 q3 => ?_)
    obtain ⟨iM4, fM40, eM4_97_12, eM4_97_19, eM4_97_21, eM4_97_24, eM4_97_27, eM4_97_28, eM4_97_10, eM4_97_44, eM4_97_33, pM4⟩ := q3
    have fM4 : Fr (fun c => c = 97 ∨ (107 ≤ c ∧ c ≤ 111)) M M4 := Fr.tr Fr.rf fM40 fi_52
    have q97_12_M4 : (M4 97 12 = M 97 12) := eM4_97_12
    have q97_10_M4 : (M4 97 10 = M 97 10) := eM4_97_10
    have q97_44_M4 : (M4 97 44 = M 97 44) := eM4_97_44
    have q97_33_M4 : (M4 97 33 = M 97 33) := eM4_97_33
    have wM4_97_12 : M4 97 12 = M 97 12 := eM4_97_12
    have wM4_97_19 : M4 97 19 = M 97 19 := eM4_97_19
    have wM4_97_21 : M4 97 21 = M 97 21 := eM4_97_21
    have wM4_97_24 : M4 97 24 = M 97 24 := eM4_97_24
    have tzM4 : TZM M4 K W S E m := TZM.eq hz (fM40 106 (by decide)) eM4_97_12
    obtain ⟨xxM4, pM4⟩ := pM4
    obtain ⟨aM4p, bM4p, cM4p, kM4p⟩ := pM4
    have tkM4 : TK M4 := kM4p
    clear kM4p
    have tbM4 := tkM4.b
    have e7M4 := fM40 107 (by decide)
    have e8M4 := fM40 108 (by decide)
    have e9M4 := fM40 109 (by decide)
    have muM4 := xxM4.at_ hz hat hbad (fun z => by omega)
    refine g_aload_n (pc' := 68) 1 dX10_readClause_67 rfl rfl ?_
    refine g_getI (pc' := 71) dX10_readClause_68 rfl f_X10_154 rfl rfl (fun v5 ev5 rv5 => ?_)
    refine g_if_eq (pc' := 74) (tgt := 75) rv5 dX10_readClause_71 rfl rfl (fun c6 => ?_) (fun c6 => ?_)
    · refine g_bipush (pc' := 77) (v := 8) dX10_readClause_75 rfl (by decide) ?_
      refine g_aload_n (pc' := 78) 1 dX10_readClause_77 rfl rfl ?_
      refine g_getI (pc' := 81) dX10_readClause_78 rfl f_X10_284 rfl rfl (fun v7 ev7 rv7 => ?_)
      refine g_imul (pc' := 82) dX10_readClause_81 rfl ?_
      obtain ⟨x8, ex8⟩ : ∃ z : Int, z = 8 * v7 := ⟨_, rfl⟩
      rw [← ex8]
      refine g_istore_n (pc' := 83) (i := 2) (L' := [(2, vi x8), (1, vi hd), (0, vr X 97)]) dX10_readClause_82 rfl rfl (by decide) rfl ?_
      refine g_iconst (pc' := 84) dX10_readClause_83 rfl ?_
      refine g_istore_n (pc' := 85) (i := 3) (L' := [(3, vi 0), (2, vi x8), (1, vi hd), (0, vr X 97)]) dX10_readClause_84 rfl rfl (by decide) rfl ?_
      refine g_sub [2, 1, 0, 3] rfl ?_
      exact l_X10_readClause_z_85 X M hi htk hbad hn19 hnc hcl K W S E m i lv hz hat h24 _ hd x8 0 M4 iM4 fM4 q97_12_M4 q97_10_M4 q97_44_M4 q97_33_M4 (by omega) (by omega) (by unfold HDs; omega) tzM4 (by omega) (UN.nx (UN.rf M _) e7M4) (LO.eq e8M4 e9M4) tkM4 (by omega) (by omega) (AT.eq (muM4.resolve_right (fun z => z.1 (by omega))).2.2 (by omega) (by omega) (by omega) (by omega) (by omega)) (by omega) rfl
    · refine g_vreturn dX10_readClause_74 ?_
      exact ⟨iM4, fM4, q97_12_M4, q97_10_M4, q97_44_M4, q97_33_M4, CLQ.no (by omega) (by omega) (by omega), tkM4, by omega, by omega, by omega, CB.bad (by omega), fun z => absurd z (by omega)⟩
  · refine g_aload_n (pc' := 51) 1 dX10_readClause_50 rfl rfl ?_
    refine g_getI (pc' := 54) dX10_readClause_51 rfl f_X10_284 rfl rfl (fun v9 ev9 rv9 => ?_)
    refine g_bipush (pc' := 56) (v := 12) dX10_readClause_54 rfl (by decide) ?_
    refine g_ic_ge (pc' := 59) (tgt := 63) rv9 (by decide) dX10_readClause_56 rfl rfl (fun c10 => ?_) (fun c10 => ?_)
    · refine g_iconst (pc' := 64) dX10_readClause_63 rfl ?_
      refine g_callVv (pc' := 67) (As := [vi 0]) (b := 97) (S := []) dX10_readClause_64 rfl m_X10_187 w_X10_must (c_X10_must_x X M hi 0 (by decide) htk) rfl ⟨_, _, _, rfl, rfl, rfl⟩ (by decide) (by decide) rfl (Nat.le_of_ble_eq_true rfl) (fun M12 q11 => ?_)
      obtain ⟨iM12, fM120, eM12_97_12, eM12_97_19, eM12_97_21, eM12_97_24, eM12_97_27, eM12_97_28, eM12_97_10, eM12_97_44, eM12_97_33, pM12⟩ := q11
      have fM12 : Fr (fun c => c = 97 ∨ (107 ≤ c ∧ c ≤ 111)) M M12 := Fr.tr Fr.rf fM120 fi_52
      have q97_12_M12 : (M12 97 12 = M 97 12) := eM12_97_12
      have q97_10_M12 : (M12 97 10 = M 97 10) := eM12_97_10
      have q97_44_M12 : (M12 97 44 = M 97 44) := eM12_97_44
      have q97_33_M12 : (M12 97 33 = M 97 33) := eM12_97_33
      have wM12_97_12 : M12 97 12 = M 97 12 := eM12_97_12
      have wM12_97_19 : M12 97 19 = M 97 19 := eM12_97_19
      have wM12_97_21 : M12 97 21 = M 97 21 := eM12_97_21
      have wM12_97_24 : M12 97 24 = M 97 24 := eM12_97_24
      have tzM12 : TZM M12 K W S E m := TZM.eq hz (fM120 106 (by decide)) eM12_97_12
      obtain ⟨xxM12, pM12⟩ := pM12
      obtain ⟨aM12p, bM12p, cM12p, kM12p⟩ := pM12
      have tkM12 : TK M12 := kM12p
      clear kM12p
      have tbM12 := tkM12.b
      have e7M12 := fM120 107 (by decide)
      have e8M12 := fM120 108 (by decide)
      have e9M12 := fM120 109 (by decide)
      have muM12 := xxM12.at_ hz hat hbad (fun z => by omega)
      refine g_aload_n (pc' := 68) 1 dX10_readClause_67 rfl rfl ?_
      refine g_getI (pc' := 71) dX10_readClause_68 rfl f_X10_154 rfl rfl (fun v13 ev13 rv13 => ?_)
      refine g_if_eq (pc' := 74) (tgt := 75) rv13 dX10_readClause_71 rfl rfl (fun c14 => ?_) (fun c14 => ?_)
      · refine g_bipush (pc' := 77) (v := 8) dX10_readClause_75 rfl (by decide) ?_
        refine g_aload_n (pc' := 78) 1 dX10_readClause_77 rfl rfl ?_
        refine g_getI (pc' := 81) dX10_readClause_78 rfl f_X10_284 rfl rfl (fun v15 ev15 rv15 => ?_)
        refine g_imul (pc' := 82) dX10_readClause_81 rfl ?_
        obtain ⟨x16, ex16⟩ : ∃ z : Int, z = 8 * v15 := ⟨_, rfl⟩
        rw [← ex16]
        refine g_istore_n (pc' := 83) (i := 2) (L' := [(2, vi x16), (1, vi hd), (0, vr X 97)]) dX10_readClause_82 rfl rfl (by decide) rfl ?_
        refine g_iconst (pc' := 84) dX10_readClause_83 rfl ?_
        refine g_istore_n (pc' := 85) (i := 3) (L' := [(3, vi 0), (2, vi x16), (1, vi hd), (0, vr X 97)]) dX10_readClause_84 rfl rfl (by decide) rfl ?_
        refine g_sub [2, 1, 0, 3] rfl ?_
        exact l_X10_readClause_z_85 X M hi htk hbad hn19 hnc hcl K W S E m i lv hz hat h24 _ hd x16 0 M12 iM12 fM12 q97_12_M12 q97_10_M12 q97_44_M12 q97_33_M12 (by omega) (by omega) (by unfold HDs; omega) tzM12 (by omega) (UN.nx (UN.rf M _) e7M12) (LO.eq e8M12 e9M12) tkM12 (by omega) (by omega) (AT.eq (muM12.resolve_right (fun z => z.1 (by omega))).2.2 (by omega) (by omega) (by omega) (by omega) (by omega)) (by omega) rfl
      · refine g_vreturn dX10_readClause_74 ?_
        exact ⟨iM12, fM12, q97_12_M12, q97_10_M12, q97_44_M12, q97_33_M12, CLQ.no (by omega) (by omega) (by omega), tkM12, by omega, by omega, by omega, CB.bad (by omega), fun z => absurd z (by omega)⟩
    · refine g_iconst (pc' := 60) dX10_readClause_59 rfl ?_
      refine g_goto (tgt := 64) dX10_readClause_60 rfl ?_
      refine g_callVv (pc' := 67) (As := [vi 1]) (b := 97) (S := []) dX10_readClause_64 rfl m_X10_187 w_X10_must (c_X10_must_x X M hi 1 (by decide) htk) rfl ⟨_, _, _, rfl, rfl, rfl⟩ (by decide) (by decide) rfl (Nat.le_of_ble_eq_true rfl) (fun M18 q17 => ?_)
      obtain ⟨iM18, fM180, eM18_97_12, eM18_97_19, eM18_97_21, eM18_97_24, eM18_97_27, eM18_97_28, eM18_97_10, eM18_97_44, eM18_97_33, pM18⟩ := q17
      have fM18 : Fr (fun c => c = 97 ∨ (107 ≤ c ∧ c ≤ 111)) M M18 := Fr.tr Fr.rf fM180 fi_52
      have q97_12_M18 : (M18 97 12 = M 97 12) := eM18_97_12
      have q97_10_M18 : (M18 97 10 = M 97 10) := eM18_97_10
      have q97_44_M18 : (M18 97 44 = M 97 44) := eM18_97_44
      have q97_33_M18 : (M18 97 33 = M 97 33) := eM18_97_33
      have wM18_97_12 : M18 97 12 = M 97 12 := eM18_97_12
      have wM18_97_19 : M18 97 19 = M 97 19 := eM18_97_19
      have wM18_97_21 : M18 97 21 = M 97 21 := eM18_97_21
      have wM18_97_24 : M18 97 24 = M 97 24 := eM18_97_24
      have tzM18 : TZM M18 K W S E m := TZM.eq hz (fM180 106 (by decide)) eM18_97_12
      obtain ⟨xxM18, pM18⟩ := pM18
      obtain ⟨aM18p, bM18p, cM18p, kM18p⟩ := pM18
      have tkM18 : TK M18 := kM18p
      clear kM18p
      have tbM18 := tkM18.b
      have e7M18 := fM180 107 (by decide)
      have e8M18 := fM180 108 (by decide)
      have e9M18 := fM180 109 (by decide)
      have muM18 := xxM18.at_ hz hat hbad (fun z => by omega)
      refine g_aload_n (pc' := 68) 1 dX10_readClause_67 rfl rfl ?_
      refine g_getI (pc' := 71) dX10_readClause_68 rfl f_X10_154 rfl rfl (fun v19 ev19 rv19 => ?_)
      refine g_if_eq (pc' := 74) (tgt := 75) rv19 dX10_readClause_71 rfl rfl (fun c20 => ?_) (fun c20 => ?_)
      · refine g_bipush (pc' := 77) (v := 8) dX10_readClause_75 rfl (by decide) ?_
        refine g_aload_n (pc' := 78) 1 dX10_readClause_77 rfl rfl ?_
        refine g_getI (pc' := 81) dX10_readClause_78 rfl f_X10_284 rfl rfl (fun v21 ev21 rv21 => ?_)
        refine g_imul (pc' := 82) dX10_readClause_81 rfl ?_
        obtain ⟨x22, ex22⟩ : ∃ z : Int, z = 8 * v21 := ⟨_, rfl⟩
        rw [← ex22]
        refine g_istore_n (pc' := 83) (i := 2) (L' := [(2, vi x22), (1, vi hd), (0, vr X 97)]) dX10_readClause_82 rfl rfl (by decide) rfl ?_
        refine g_iconst (pc' := 84) dX10_readClause_83 rfl ?_
        refine g_istore_n (pc' := 85) (i := 3) (L' := [(3, vi 0), (2, vi x22), (1, vi hd), (0, vr X 97)]) dX10_readClause_84 rfl rfl (by decide) rfl ?_
        refine g_sub [2, 1, 0, 3] rfl ?_
        exact l_X10_readClause_z_85 X M hi htk hbad hn19 hnc hcl K W S E m i lv hz hat h24 _ hd x22 0 M18 iM18 fM18 q97_12_M18 q97_10_M18 q97_44_M18 q97_33_M18 (by omega) (by omega) (by unfold HDs; omega) tzM18 (by omega) (UN.nx (UN.rf M _) e7M18) (LO.eq e8M18 e9M18) tkM18 (by omega) (by omega) (AT.eq (muM18.resolve_right (fun z => z.1 (by omega))).2.2 (by omega) (by omega) (by omega) (by omega) (by omega)) (by omega) rfl
      · refine g_vreturn dX10_readClause_74 ?_
        exact ⟨iM18, fM18, q97_12_M18, q97_10_M18, q97_44_M18, q97_33_M18, CLQ.no (by omega) (by omega) (by omega), tkM18, by omega, by omega, by omega, CB.bad (by omega), fun z => absurd z (by omega)⟩
set_option maxHeartbeats 4000000 in
set_option maxRecDepth 100000 in
theorem c_X10_readClause_z (X : Cx) (M : Mm) (hi : IM M) (htk : TK M) (hbad : M 97 18 = 0) (hn19 : 0 ≤ M 97 19 ∧ M 97 19 ≤ 12) (hnc : 0 ≤ M 97 21 ∧ M 97 21 ≤ M 97 13) (hcl : CLS M) (K W S E : Nat → Int) (m i : Nat) (lv : Int) (hz : TZM M K W S E m) (hat : AT K W S E m M i) (h24 : M 97 24 = lv) : Con X 7 yX10_readClause cX10_readClause 4 none [vr X 97] M (Qv (fun M1 => IM M1 ∧ Fr (fun c => c = 97 ∨ (107 ≤ c ∧ c ≤ 111)) M M1 ∧ M1 97 12 = M 97 12 ∧ M1 97 10 = M 97 10 ∧ M1 97 44 = M 97 44 ∧ M1 97 33 = M 97 33 ∧ (CLQ K W S E m i lv (M 97 19) M1 ∧ TK M1 ∧ (0 ≤ M1 97 19 ∧ M1 97 19 ≤ 12) ∧ (0 ≤ M1 97 21 ∧ M1 97 21 ≤ M1 97 13) ∧ M 97 13 ≤ M1 97 13 ∧ CB M1 ∧ (M1 97 18 = 0 → CLM K W i lv M1 (8 * M 97 19) ∧ UN M M1 (8 * M 97 19) ∧ LO M M1 (M 97 21) ∧ M 97 21 ≤ M1 97 21)))) := by
  refine Con.ofG rfl (Nat.le_of_ble_eq_true rfl) ?_
  show G X 7 RX10 cX10_readClause 4 none (Qv (fun M1 => IM M1 ∧ Fr (fun c => c = 97 ∨ (107 ≤ c ∧ c ≤ 111)) M M1 ∧ M1 97 12 = M 97 12 ∧ M1 97 10 = M 97 10 ∧ M1 97 44 = M 97 44 ∧ M1 97 33 = M 97 33 ∧ (CLQ K W S E m i lv (M 97 19) M1 ∧ TK M1 ∧ (0 ≤ M1 97 19 ∧ M1 97 19 ≤ 12) ∧ (0 ≤ M1 97 21 ∧ M1 97 21 ≤ M1 97 13) ∧ M 97 13 ≤ M1 97 13 ∧ CB M1 ∧ (M1 97 18 = 0 → CLM K W i lv M1 (8 * M 97 19) ∧ UN M M1 (8 * M 97 19) ∧ LO M M1 (M 97 21) ∧ M 97 21 ≤ M1 97 21)))) 0 [(0, vr X 97)] [] M
  have p12 := hi.2.2.2.1
  have tb0 := htk.b
  have lt0 := htk.lt
  have aw0 := hat.w hz
  refine g_aload_n (pc' := 1) 0 dX10_readClause_0 rfl rfl ?_
  refine g_ldc2 (pc' := 4) (v := 20463086) dX10_readClause_1 rfl k_X10_278 ?_
  refine g_callVip (pc' := 7) (As := [vl 20463086]) (b := 97) (S := []) dX10_readClause_4 rfl m_X10_229 w_X10_isWord (c_X10_isWord_x X M hi 20463086 (by decide)) rfl ⟨_, _, _, rfl, rfl, rfl⟩ (by decide) (by decide) rfl (Nat.le_of_ble_eq_true rfl) (fun z3 q2 => ?_)
  refine g_if_eq (pc' := 10) (tgt := 14) ⟨by omega, by omega⟩ dX10_readClause_7 rfl rfl (fun c4 => ?_) (fun c4 => ?_)
  · replace q2 := q2.resolve_left (fun h => absurd (c4.symm.trans h.1) (by decide))
    refine g_aload_n (pc' := 15) 0 dX10_readClause_14 rfl rfl ?_
    refine g_ldc2 (pc' := 18) (v := 402539) dX10_readClause_15 rfl k_X10_280 ?_
    refine g_callVip (pc' := 21) (As := [vl 402539]) (b := 97) (S := []) dX10_readClause_18 rfl m_X10_229 w_X10_isWord (c_X10_isWord_x X M hi 402539 (by decide)) rfl ⟨_, _, _, rfl, rfl, rfl⟩ (by decide) (by decide) rfl (Nat.le_of_ble_eq_true rfl) (fun z6 q5 => ?_)
    refine g_if_eq (pc' := 24) (tgt := 28) ⟨by omega, by omega⟩ dX10_readClause_21 rfl rfl (fun c7 => ?_) (fun c7 => ?_)
    · replace q5 := q5.resolve_left (fun h => absurd (c7.symm.trans h.1) (by decide))
      refine g_aload_n (pc' := 29) 0 dX10_readClause_28 rfl rfl ?_
      refine g_ldc2 (pc' := 32) (v := 206220) dX10_readClause_29 rfl k_X10_282 ?_
      refine g_callVip (pc' := 35) (As := [vl 206220]) (b := 97) (S := []) dX10_readClause_32 rfl m_X10_229 w_X10_isWord (c_X10_isWord_x X M hi 206220 (by decide)) rfl ⟨_, _, _, rfl, rfl, rfl⟩ (by decide) (by decide) rfl (Nat.le_of_ble_eq_true rfl) (fun z9 q8 => ?_)
      refine g_if_eq (pc' := 38) (tgt := 42) ⟨by omega, by omega⟩ dX10_readClause_35 rfl rfl (fun c10 => ?_) (fun c10 => ?_)
      · replace q8 := q8.resolve_left (fun h => absurd (c10.symm.trans h.1) (by decide))
        refine g_iconst (pc' := 43) dX10_readClause_42 rfl ?_
        refine g_istore_n (pc' := 44) (i := 1) (L' := [(1, vi (-1)), (0, vr X 97)]) dX10_readClause_43 rfl rfl (by decide) rfl ?_
        refine g_sub [0, 1] rfl ?_
        exact j_X10_readClause_z_44 X M hi htk hbad hn19 hnc hcl K W S E m i lv hz hat h24 (-1) (by omega) (by omega) (by omega)
      · replace q8 := q8.resolve_right (fun h => c10 h.1)
        refine g_iconst (pc' := 39) dX10_readClause_38 rfl ?_
        refine g_goto (tgt := 43) dX10_readClause_39 rfl ?_
        refine g_istore_n (pc' := 44) (i := 1) (L' := [(1, vi 2), (0, vr X 97)]) dX10_readClause_43 rfl rfl (by decide) rfl ?_
        refine g_sub [0, 1] rfl ?_
        exact j_X10_readClause_z_44 X M hi htk hbad hn19 hnc hcl K W S E m i lv hz hat h24 2 (by omega) (by omega) (by omega)
    · replace q5 := q5.resolve_right (fun h => c7 h.1)
      refine g_iconst (pc' := 25) dX10_readClause_24 rfl ?_
      refine g_goto (tgt := 43) dX10_readClause_25 rfl ?_
      refine g_istore_n (pc' := 44) (i := 1) (L' := [(1, vi 1), (0, vr X 97)]) dX10_readClause_43 rfl rfl (by decide) rfl ?_
      refine g_sub [0, 1] rfl ?_
      exact j_X10_readClause_z_44 X M hi htk hbad hn19 hnc hcl K W S E m i lv hz hat h24 1 (by omega) (by omega) (by omega)
  · replace q2 := q2.resolve_right (fun h => c4 h.1)
    refine g_iconst (pc' := 11) dX10_readClause_10 rfl ?_
    refine g_goto (tgt := 43) dX10_readClause_11 rfl ?_
    refine g_istore_n (pc' := 44) (i := 1) (L' := [(1, vi 0), (0, vr X 97)]) dX10_readClause_43 rfl rfl (by decide) rfl ?_
    refine g_sub [0, 1] rfl ?_
    exact j_X10_readClause_z_44 X M hi htk hbad hn19 hnc hcl K W S E m i lv hz hat h24 0 (by omega) (by omega) (by omega)
