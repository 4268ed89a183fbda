set_option maxHeartbeats 4000000 in
set_option maxRecDepth 100000 in
theorem l_X10_evening_z_121 (X : Cx) (M : Mm) (hi : IM M) (K W S E : Nat → Int) (m : Nat) (hz : TZM M K W S E m) (n111 : Nat) (ihO : ∀ mO : Nat, mO < n111 → ∀ (ci : Int) (M1 : Mm) (ic1 : IM M1) (fr1 : Fr (fun c => c = 97 ∨ c = 98 ∨ c = 101 ∨ c = 104 ∨ c = 105 ∨ c = 107 ∨ c = 108 ∨ c = 109 ∨ c = 110 ∨ c = 111 ∨ c = 112) M M1) (q99_0 : (M1 99 0 = M 99 0)) (q99_1 : (M1 99 1 = M 99 1)) (q99_2 : (M1 99 2 = M 99 2)) (q99_3 : (M1 99 3 = M 99 3)) (q100_0 : id (M1 100 0 = M 100 0)) (q100_1 : id (M1 100 1 = M 100 1)) (q100_2 : id (M1 100 2 = M 100 2)) (q100_3 : id (M1 100 3 = M 100 3)) (q100_49 : id (M1 100 49 = M 100 49)) (q100_50 : id (M1 100 50 = M 100 50)) (q100_51 : id (M1 100 51 = M 100 51)) (q100_52 : id (M1 100 52 = M 100 52)) (q103_0 : id (M1 103 0 = M 103 0)) (q103_1 : id (M1 103 1 = M 103 1)) (q97_10 : (M1 97 10 = M 97 10)) (q97_44 : (M1 97 44 = M 97 44)) (k98 : M1 98 = M 98) (cls1 : CLS M1) (kn1 : ∀ j : Nat, j < 25 → M1 104 (25 + j) = M 101 j) (tz : M1 97 12 = 0) (n1 : 0 ≤ M1 97 19 ∧ M1 97 19 ≤ 12) (v17 : Int) (e17 : M1 97 17 = v17) (ev : EVQ S (tXf K W 12 0 0) v17) (s1 : (tXf K W 12 0 0).1 = 1) (k33 : M1 97 33 = -1) (N : Nat) (hN : M1 97 19 = (N : Int)) (cnt : CNT K W N) (txm1 : TXM K W N M1) (hd1 : 0 ≤ M1 97 32 ∧ M1 97 32 ≤ 20 * ci) (hk : 0 ≤ ci ∧ ci ≤ M1 97 19) (mo : Nat → Int) (e25 : E25 mo (M1 101)) (eo : evC (M 99 0) (fun j => M 99 (4 + j)) K W (M 101) ci.toNat = (0, mo, M1 97 32)), (M1 97 19 - ci).toNat = mO → G X 12 RX10 cX10_evening 4 (some .int) (Qi (fun r M1 => IM M1 ∧ Fr (fun c => c = 97 ∨ c = 98 ∨ c = 101 ∨ c = 104 ∨ c = 105 ∨ c = 107 ∨ c = 108 ∨ c = 109 ∨ c = 110 ∨ c = 111 ∨ c = 112) M M1 ∧ M1 99 0 = M 99 0 ∧ M1 99 1 = M 99 1 ∧ M1 99 2 = M 99 2 ∧ M1 99 3 = M 99 3 ∧ M1 100 0 = M 100 0 ∧ M1 100 1 = M 100 1 ∧ M1 100 2 = M 100 2 ∧ M1 100 3 = M 100 3 ∧ M1 100 49 = M 100 49 ∧ M1 100 50 = M 100 50 ∧ M1 100 51 = M 100 51 ∧ M1 100 52 = M 100 52 ∧ M1 103 0 = M 103 0 ∧ M1 103 1 = M 103 1 ∧ M1 97 10 = M 97 10 ∧ M1 97 44 = M 97 44 ∧ ((inI r ∧ M1 97 12 = 0) ∧ EVM K W S (M 99 0) (fun j => M 99 (4 + j)) (M 101) M1 r ∧ M1 97 1 = ngv r ∧ M1 98 = telF (M 98) r))) 111 [(1, vi ci), (0, vr X 97)] [] M1) : ∀ (kk : Nat) (ci : Int) (t : Int) (M1 : Mm) (ic1 : IM M1) (fr1 : Fr (fun c => c = 97 ∨ c = 98 ∨ c = 101 ∨ c = 104 ∨ c = 105 ∨ c = 107 ∨ c = 108 ∨ c = 109 ∨ c = 110 ∨ c = 111 ∨ c = 112) M M1) (q99_0 : (M1 99 0 = M 99 0)) (q99_1 : (M1 99 1 = M 99 1)) (q99_2 : (M1 99 2 = M 99 2)) (q99_3 : (M1 99 3 = M 99 3)) (q100_0 : id (M1 100 0 = M 100 0)) (q100_1 : id (M1 100 1 = M 100 1)) (q100_2 : id (M1 100 2 = M 100 2)) (q100_3 : id (M1 100 3 = M 100 3)) (q100_49 : id (M1 100 49 = M 100 49)) (q100_50 : id (M1 100 50 = M 100 50)) (q100_51 : id (M1 100 51 = M 100 51)) (q100_52 : id (M1 100 52 = M 100 52)) (q103_0 : id (M1 103 0 = M 103 0)) (q103_1 : id (M1 103 1 = M 103 1)) (q97_10 : (M1 97 10 = M 97 10)) (q97_44 : (M1 97 44 = M 97 44)) (k98 : M1 98 = M 98) (cls1 : CLS M1) (kn1 : ∀ j : Nat, j < 25 → M1 104 (25 + j) = M 101 j) (tz : M1 97 12 = 0) (n1 : 0 ≤ M1 97 19 ∧ M1 97 19 ≤ 12) (v17 : Int) (e17 : M1 97 17 = v17) (ev : EVQ S (tXf K W 12 0 0) v17) (s1 : (tXf K W 12 0 0).1 = 1) (k33 : M1 97 33 = -1) (N : Nat) (hN : M1 97 19 = (N : Int)) (cnt : CNT K W N) (txm1 : TXM K W N M1) (hd1 : 0 ≤ M1 97 32 ∧ M1 97 32 ≤ 20 * ci + t) (hk : 0 ≤ ci ∧ ci < M1 97 19) (ht : 0 ≤ t ∧ t ≤ 20) (hO : (M1 97 19 - ci).toNat = n111) (mo : Nat → Int) (dO : Int) (eo : evC (M 99 0) (fun j => M 99 (4 + j)) K W (M 101) ci.toNat = (0, mo, dO)) (mm : Nat → Int) (e25 : E25 mm (M1 101)) (es : evI (M 99 0) (fun j => M 99 (4 + j)) K W (clP K W ci.toNat).1 (clP K W ci.toNat).2 (0, mo, dO) t.toNat = (0, mm, M1 97 32)) (htm : t ≤ cTm K W (clP K W ci.toNat).1 (clP K W ci.toNat).2), (20 - t).toNat = kk → G X 12 RX10 cX10_evening 4 (some .int) (Qi (fun r M1 => IM M1 ∧ Fr (fun c => c = 97 ∨ c = 98 ∨ c = 101 ∨ c = 104 ∨ c = 105 ∨ c = 107 ∨ c = 108 ∨ c = 109 ∨ c = 110 ∨ c = 111 ∨ c = 112) M M1 ∧ M1 99 0 = M 99 0 ∧ M1 99 1 = M 99 1 ∧ M1 99 2 = M 99 2 ∧ M1 99 3 = M 99 3 ∧ M1 100 0 = M 100 0 ∧ M1 100 1 = M 100 1 ∧ M1 100 2 = M 100 2 ∧ M1 100 3 = M 100 3 ∧ M1 100 49 = M 100 49 ∧ M1 100 50 = M 100 50 ∧ M1 100 51 = M 100 51 ∧ M1 100 52 = M 100 52 ∧ M1 103 0 = M 103 0 ∧ M1 103 1 = M 103 1 ∧ M1 97 10 = M 97 10 ∧ M1 97 44 = M 97 44 ∧ ((inI r ∧ M1 97 12 = 0) ∧ EVM K W S (M 99 0) (fun j => M 99 (4 + j)) (M 101) M1 r ∧ M1 97 1 = ngv r ∧ M1 98 = telF (M 98) r))) 121 [(1, vi ci), (2, vi t), (0, vr X 97)] [] M1 := by
  intro kk
  induction kk using Nat.strongRecOn with
  | ind kk ih =>
    intro ci t M1 ic1 fr1 q99_0 q99_1 q99_2 q99_3 q100_0 q100_1 q100_2 q100_3 q100_49 q100_50 q100_51 q100_52 q103_0 q103_1 q97_10 q97_44 k98 cls1 kn1 tz n1 v17 e17 ev s1 k33 N hN cnt txm1 hd1 hk ht hO mo dO eo mm e25 es htm hmes
    have p0 := hi.1.1
    have p1 := hi.1.2.1
    have p2 := hi.1.2.2.1
    have p3 := hi.1.2.2.2.1
    have p12 := hi.2.2.2.1
    refine g_iload_n (pc' := 122) 1 dX10_evening_121 rfl rfl ?_
    refine g_aload_n (pc' := 123) 2 dX10_evening_122 rfl rfl ?_
    refine g_getR (pc' := 126) dX10_evening_123 rfl f_X10_43 rfl rfl ?_
    refine g_bipush (pc' := 128) (v := 8) dX10_evening_126 rfl (by decide) ?_
    refine g_iload_n (pc' := 129) 0 dX10_evening_128 rfl rfl ?_
    refine g_imul (pc' := 130) dX10_evening_129 rfl ?_
    refine g_bipush (pc' := 132) (v := 7) dX10_evening_130 rfl (by decide) ?_
    refine g_iadd (pc' := 133) dX10_evening_132 rfl ?_
    refine g_iald (pc' := 134) dX10_evening_133 rfl rfl (by omega) (by omega) (fun v2 ev2 rv2 => ?_)
    have gv2 : 0 ≤ v2 ∧ v2 ≤ 20 := by rw [ev2]; exact (cls1 ci (by omega) (by omega)).2.2.2.1
    have tvv2 : v2 = cTm K W (clP K W ci.toNat).1 (clP K W ci.toNat).2 := by rw [ev2]; exact TXM.tm txm1 (by omega)
    refine g_ic_ge (pc' := 137) (tgt := 173) ⟨by omega, by omega⟩ rv2 dX10_evening_134 rfl rfl (fun c3 => ?_) (fun c3 => ?_)
    · refine g_iinc (pc' := 176) (L' := [(1, vi (ci + 1)), (2, vi t), (0, vr X 97)]) 0 dX10_evening_173 rfl rfl (by decide) rfl ?_
      refine g_goto (tgt := 111) dX10_evening_176 rfl ?_
      refine g_sub [0, 2] rfl ?_
      exact ihO _ (by omega) (ci + 1) M1 ic1 fr1 q99_0 q99_1 q99_2 q99_3 q100_0 q100_1 q100_2 q100_3 q100_49 q100_50 q100_51 q100_52 q103_0 q103_1 q97_10 q97_44 k98 cls1 kn1 (by omega) (by omega) v17 (by omega) ev s1 (by omega) N (by omega) cnt txm1 (by omega) (by omega) mm e25 (evC_n eo es (by omega) (by omega)) rfl
    · refine g_aload_n (pc' := 138) 2 dX10_evening_137 rfl rfl ?_
      refine g_bipush (pc' := 140) (v := 8) dX10_evening_138 rfl (by decide) ?_
      refine g_iload_n (pc' := 141) 0 dX10_evening_140 rfl rfl ?_
      refine g_imul (pc' := 142) dX10_evening_141 rfl ?_
      refine g_callVi (pc' := 145) (As := [vi (8 * ci)]) (b := 97) (S := []) dX10_evening_142 rfl m_X10_328 w_X10_move (c_X10_move_z X M1 ic1 (8 * ci) ⟨by omega, by omega⟩ (by omega) (cls1 ci (by omega) (by omega)) (by omega) K W (clP K W ci.toNat).1 (clP K W ci.toNat).2 (TXM.cl txm1 (by omega)) mm e25) rfl ⟨_, _, _, rfl, rfl, rfl⟩ (by decide) (by decide) rfl (Nat.le_of_ble_eq_true rfl) (fun z5 M6 q4 => ?_)
      obtain ⟨iM6, fM60, eM6_97_12, eM6_97_19, eM6_97_21, eM6_97_17, eM6_97_33, eM6_97_10, eM6_97_44, pM6⟩ := q4
      have fM6 : Fr (fun c => c = 97 ∨ c = 98 ∨ c = 101 ∨ c = 104 ∨ c = 105 ∨ c = 107 ∨ c = 108 ∨ c = 109 ∨ c = 110 ∨ c = 111 ∨ c = 112) M M6 := Fr.tr fr1 fM60 fi_54
      have q99_0_M6 : (M6 99 0 = M 99 0) := (congrFun (fM60 99 (by first | decide | omega | (dsimp only; omega))) 0).trans q99_0
      have q99_1_M6 : (M6 99 1 = M 99 1) := (congrFun (fM60 99 (by first | decide | omega | (dsimp only; omega))) 1).trans q99_1
      have q99_2_M6 : (M6 99 2 = M 99 2) := (congrFun (fM60 99 (by first | decide | omega | (dsimp only; omega))) 2).trans q99_2
      have q99_3_M6 : (M6 99 3 = M 99 3) := (congrFun (fM60 99 (by first | decide | omega | (dsimp only; omega))) 3).trans q99_3
      have q100_0_M6 : id (M6 100 0 = M 100 0) := (congrFun (fM60 100 (by first | decide | omega | (dsimp only; omega))) 0).trans q100_0
      have q100_1_M6 : id (M6 100 1 = M 100 1) := (congrFun (fM60 100 (by first | decide | omega | (dsimp only; omega))) 1).trans q100_1
      have q100_2_M6 : id (M6 100 2 = M 100 2) := (congrFun (fM60 100 (by first | decide | omega | (dsimp only; omega))) 2).trans q100_2
      have q100_3_M6 : id (M6 100 3 = M 100 3) := (congrFun (fM60 100 (by first | decide | omega | (dsimp only; omega))) 3).trans q100_3
      have q100_49_M6 : id (M6 100 49 = M 100 49) := (congrFun (fM60 100 (by first | decide | omega | (dsimp only; omega))) 49).trans q100_49
      have q100_50_M6 : id (M6 100 50 = M 100 50) := (congrFun (fM60 100 (by first | decide | omega | (dsimp only; omega))) 50).trans q100_50
      have q100_51_M6 : id (M6 100 51 = M 100 51) := (congrFun (fM60 100 (by first | decide | omega | (dsimp only; omega))) 51).trans q100_51
      have q100_52_M6 : id (M6 100 52 = M 100 52) := (congrFun (fM60 100 (by first | decide | omega | (dsimp only; omega))) 52).trans q100_52
      have q103_0_M6 : id (M6 103 0 = M 103 0) := (congrFun (fM60 103 (by first | decide | omega | (dsimp only; omega))) 0).trans q103_0
      have q103_1_M6 : id (M6 103 1 = M 103 1) := (congrFun (fM60 103 (by first | decide | omega | (dsimp only; omega))) 1).trans q103_1
      have q97_10_M6 : (M6 97 10 = M 97 10) := eM6_97_10.trans q97_10
      have q97_44_M6 : (M6 97 44 = M 97 44) := eM6_97_44.trans q97_44
      have wM6_97_12 : M6 97 12 = M1 97 12 := eM6_97_12
      have wM6_97_17 : M6 97 17 = M1 97 17 := eM6_97_17
      have wM6_97_19 : M6 97 19 = M1 97 19 := eM6_97_19
      have wM6_97_21 : M6 97 21 = M1 97 21 := eM6_97_21
      have wM6_97_33 : M6 97 33 = M1 97 33 := eM6_97_33
      obtain ⟨mrM6, mdM6, kqM6, mqM6⟩ := pM6
      rw [fr1 99 (by decide)] at mqM6
      have knM6 : ∀ j : Nat, j < 25 → M6 104 (25 + j) = M 101 j := fun j hj => (kqM6 (25 + j) (by omega)).trans (kn1 j hj)
      have clsM6 : CLS M6 := CLS.nx cls1 (fM60 107 (by decide)) (fM60 108 (by decide)) (fM60 109 (by decide)) (by omega) (by omega)
      have tmM6 : TXM K W N M6 := TXM.eq txm1 (fM60 107 (by decide)) (fM60 108 (by decide)) (fM60 109 (by decide)) (by omega)
      have k98M6 : M6 98 = M 98 := (fM60 98 (by decide)).trans k98
      refine g_istore_n (pc' := 146) (i := 3) (L' := [(3, vi z5), (1, vi ci), (2, vi t), (0, vr X 97)]) dX10_evening_145 rfl rfl (by decide) rfl ?_
      refine g_iload_n (pc' := 147) 0 dX10_evening_146 rfl rfl ?_
      refine g_if_ge (pc' := 150) (tgt := 167) ⟨by omega, by omega⟩ dX10_evening_147 rfl rfl (fun c7 => ?_) (fun c7 => ?_)
      · refine g_iinc (pc' := 170) (L' := [(2, vi (t + 1)), (3, vi z5), (1, vi ci), (0, vr X 97)]) 2 dX10_evening_167 rfl rfl (by decide) rfl ?_
        refine g_goto (tgt := 121) dX10_evening_170 rfl ?_
        refine g_sub [2, 0, 3] rfl ?_
        exact ih _ (by omega) ci (t + 1) M6 iM6 fM6 q99_0_M6 q99_1_M6 q99_2_M6 q99_3_M6 q100_0_M6 q100_1_M6 q100_2_M6 q100_3_M6 q100_49_M6 q100_50_M6 q100_51_M6 q100_52_M6 q103_0_M6 q103_1_M6 q97_10_M6 q97_44_M6 k98M6 clsM6 knM6 (by omega) (by omega) v17 (by omega) ev s1 (by omega) N (by omega) cnt tmM6 (by omega) (by omega) (by omega) (by omega) mo dO eo (evS (M 99 0) (fun j => M 99 (4 + j)) K W (clP K W ci.toNat).1 (clP K W ci.toNat).2 mm (M1 97 32)).2.1 mqM6.2.1 (evI_n es (by omega) mqM6 (by omega)) (by omega) rfl
      · refine g_aload_n (pc' := 151) 3 dX10_evening_150 rfl rfl ?_
        refine g_bipush (pc' := 153) (v := 25) dX10_evening_151 rfl (by decide) ?_
        refine g_callVv (pc' := 156) (As := [vi 25]) (b := 97) (S := []) dX10_evening_153 rfl m_X10_132 w_X10_putBack (c_X10_putBack X M6 25 (by decide) ⟨by omega, by omega⟩) rfl ⟨_, _, _, rfl, rfl, rfl⟩ (by decide) (by decide) rfl (Nat.le_of_ble_eq_true rfl) (fun M9 q8 => ?_)
        obtain ⟨fbM9, pbM9⟩ := q8
        have iM9 : IM M9 := IM.parts iM6 fbM9 (fun c z => by omega) (PIw.cg hi.2.1 (fun j hj => (pbM9 j hj).trans (knM6 j hj)))
        have q99_0_M9 : M9 99 0 = M 99 0 := (congrFun (fbM9 99 (by omega)) 0).trans q99_0_M6
        have q99_1_M9 : M9 99 1 = M 99 1 := (congrFun (fbM9 99 (by omega)) 1).trans q99_1_M6
        have q99_2_M9 : M9 99 2 = M 99 2 := (congrFun (fbM9 99 (by omega)) 2).trans q99_2_M6
        have q99_3_M9 : M9 99 3 = M 99 3 := (congrFun (fbM9 99 (by omega)) 3).trans q99_3_M6
        have q100_0_M9 : M9 100 0 = M 100 0 := (congrFun (fbM9 100 (by omega)) 0).trans q100_0_M6
        have q100_1_M9 : M9 100 1 = M 100 1 := (congrFun (fbM9 100 (by omega)) 1).trans q100_1_M6
        have q100_2_M9 : M9 100 2 = M 100 2 := (congrFun (fbM9 100 (by omega)) 2).trans q100_2_M6
        have q100_3_M9 : M9 100 3 = M 100 3 := (congrFun (fbM9 100 (by omega)) 3).trans q100_3_M6
        have q100_49_M9 : M9 100 49 = M 100 49 := (congrFun (fbM9 100 (by omega)) 49).trans q100_49_M6
        have q100_50_M9 : M9 100 50 = M 100 50 := (congrFun (fbM9 100 (by omega)) 50).trans q100_50_M6
        have q100_51_M9 : M9 100 51 = M 100 51 := (congrFun (fbM9 100 (by omega)) 51).trans q100_51_M6
        have q100_52_M9 : M9 100 52 = M 100 52 := (congrFun (fbM9 100 (by omega)) 52).trans q100_52_M6
        have q103_0_M9 : M9 103 0 = M 103 0 := (congrFun (fbM9 103 (by omega)) 0).trans q103_0_M6
        have q103_1_M9 : M9 103 1 = M 103 1 := (congrFun (fbM9 103 (by omega)) 1).trans q103_1_M6
        have q97_10_M9 : M9 97 10 = M 97 10 := (congrFun (fbM9 97 (by omega)) 10).trans q97_10_M6
        have q97_44_M9 : M9 97 44 = M 97 44 := (congrFun (fbM9 97 (by omega)) 44).trans q97_44_M6
        have fM9 : Fr (fun c => c = 97 ∨ c = 98 ∨ c = 101 ∨ c = 104 ∨ c = 105 ∨ c = 107 ∨ c = 108 ∨ c = 109 ∨ c = 110 ∨ c = 111 ∨ c = 112) M M9 := Fr.tr fM6 fbM9 (fun c z => by omega)
        have wM9_97_12 := congrFun (fbM9 97 (by omega)) 12
        have wM9_97_13 := congrFun (fbM9 97 (by omega)) 13
        have wM9_97_14 := congrFun (fbM9 97 (by omega)) 14
        have wM9_97_15 := congrFun (fbM9 97 (by omega)) 15
        have wM9_97_16 := congrFun (fbM9 97 (by omega)) 16
        have wM9_97_17 := congrFun (fbM9 97 (by omega)) 17
        have wM9_97_18 := congrFun (fbM9 97 (by omega)) 18
        have wM9_97_19 := congrFun (fbM9 97 (by omega)) 19
        have wM9_97_21 := congrFun (fbM9 97 (by omega)) 21
        have wM9_97_24 := congrFun (fbM9 97 (by omega)) 24
        have wM9_97_32 := congrFun (fbM9 97 (by omega)) 32
        have wM9_97_33 := congrFun (fbM9 97 (by omega)) 33
        have e25M9 : E25 (M 101) (M9 101) := fun j hj => (pbM9 j hj).trans (knM6 j hj)
        have k98M9 : M9 98 = M 98 := (fbM9 98 (by decide)).trans k98M6
        refine g_aload_n (pc' := 157) 3 dX10_evening_156 rfl rfl ?_
        refine g_iload_n (pc' := 158) 1 dX10_evening_157 rfl rfl ?_
        refine g_putI (pc' := 161) dX10_evening_158 rfl p_X10_61 rfl rfl ⟨by omega, by omega⟩ (fun M10 hM10 => ?_)
        have iM10 : IM M10 := IM.wr iM9 hM10 (by unfold okv; first | decide | omega)
        have fM10 : Fr (fun c => c = 97 ∨ c = 98 ∨ c = 101 ∨ c = 104 ∨ c = 105 ∨ c = 107 ∨ c = 108 ∨ c = 109 ∨ c = 110 ∨ c = 111 ∨ c = 112) M M10 := Fr.wr fM9 hM10 (by first | decide | omega | (dsimp only; omega))
        have q99_0_M10 : (M10 99 0 = M 99 0) := (show M10 99 0 = M9 99 0 by rw [hM10]; exact mu_ne _ _ (by first | decide | omega)).trans q99_0_M9
        have q99_1_M10 : (M10 99 1 = M 99 1) := (show M10 99 1 = M9 99 1 by rw [hM10]; exact mu_ne _ _ (by first | decide | omega)).trans q99_1_M9
        have q99_2_M10 : (M10 99 2 = M 99 2) := (show M10 99 2 = M9 99 2 by rw [hM10]; exact mu_ne _ _ (by first | decide | omega)).trans q99_2_M9
        have q99_3_M10 : (M10 99 3 = M 99 3) := (show M10 99 3 = M9 99 3 by rw [hM10]; exact mu_ne _ _ (by first | decide | omega)).trans q99_3_M9
        have q100_0_M10 : id (M10 100 0 = M 100 0) := (show M10 100 0 = M9 100 0 by rw [hM10]; exact mu_ne _ _ (by first | decide | omega)).trans q100_0_M9
        have q100_1_M10 : id (M10 100 1 = M 100 1) := (show M10 100 1 = M9 100 1 by rw [hM10]; exact mu_ne _ _ (by first | decide | omega)).trans q100_1_M9
        have q100_2_M10 : id (M10 100 2 = M 100 2) := (show M10 100 2 = M9 100 2 by rw [hM10]; exact mu_ne _ _ (by first | decide | omega)).trans q100_2_M9
        have q100_3_M10 : id (M10 100 3 = M 100 3) := (show M10 100 3 = M9 100 3 by rw [hM10]; exact mu_ne _ _ (by first | decide | omega)).trans q100_3_M9
        have q100_49_M10 : id (M10 100 49 = M 100 49) := (show M10 100 49 = M9 100 49 by rw [hM10]; exact mu_ne _ _ (by first | decide | omega)).trans q100_49_M9
        have q100_50_M10 : id (M10 100 50 = M 100 50) := (show M10 100 50 = M9 100 50 by rw [hM10]; exact mu_ne _ _ (by first | decide | omega)).trans q100_50_M9
        have q100_51_M10 : id (M10 100 51 = M 100 51) := (show M10 100 51 = M9 100 51 by rw [hM10]; exact mu_ne _ _ (by first | decide | omega)).trans q100_51_M9
        have q100_52_M10 : id (M10 100 52 = M 100 52) := (show M10 100 52 = M9 100 52 by rw [hM10]; exact mu_ne _ _ (by first | decide | omega)).trans q100_52_M9
        have q103_0_M10 : id (M10 103 0 = M 103 0) := (show M10 103 0 = M9 103 0 by rw [hM10]; exact mu_ne _ _ (by first | decide | omega)).trans q103_0_M9
        have q103_1_M10 : id (M10 103 1 = M 103 1) := (show M10 103 1 = M9 103 1 by rw [hM10]; exact mu_ne _ _ (by first | decide | omega)).trans q103_1_M9
        have q97_10_M10 : (M10 97 10 = M 97 10) := (show M10 97 10 = M9 97 10 by rw [hM10]; exact mu_ne _ _ (by first | decide | omega)).trans q97_10_M9
        have q97_44_M10 : (M10 97 44 = M 97 44) := (show M10 97 44 = M9 97 44 by rw [hM10]; exact mu_ne _ _ (by first | decide | omega)).trans q97_44_M9
        have wM10_97_12 : M10 97 12 = M9 97 12 := by rw [hM10]; exact mu_ne _ _ (by first | decide | omega)
        have wM10_97_13 : M10 97 13 = M9 97 13 := by rw [hM10]; exact mu_ne _ _ (by first | decide | omega)
        have wM10_97_14 : M10 97 14 = M9 97 14 := by rw [hM10]; exact mu_ne _ _ (by first | decide | omega)
        have wM10_97_15 : M10 97 15 = M9 97 15 := by rw [hM10]; exact mu_ne _ _ (by first | decide | omega)
        have wM10_97_16 : M10 97 16 = M9 97 16 := by rw [hM10]; exact mu_ne _ _ (by first | decide | omega)
        have wM10_97_17 : M10 97 17 = M9 97 17 := by rw [hM10]; exact mu_ne _ _ (by first | decide | omega)
        have wM10_97_18 : M10 97 18 = M9 97 18 := by rw [hM10]; exact mu_ne _ _ (by first | decide | omega)
        have wM10_97_19 : M10 97 19 = M9 97 19 := by rw [hM10]; exact mu_ne _ _ (by first | decide | omega)
        have wM10_97_21 : M10 97 21 = M9 97 21 := by rw [hM10]; exact mu_ne _ _ (by first | decide | omega)
        have wM10_97_24 : M10 97 24 = M9 97 24 := by rw [hM10]; exact mu_ne _ _ (by first | decide | omega)
        have wM10_97_32 : M10 97 32 = M9 97 32 := by rw [hM10]; exact mu_ne _ _ (by first | decide | omega)
        have xM10_97_33 : M10 97 33 = ci := by rw [hM10]; exact mu_at _ _ _ _
        have k98M10 : M10 98 = M 98 := (show M10 98 = M9 98 from (by rw [hM10]; exact mu_cell _ _ (by decide))).trans k98M9
        have e25M10 : E25 (M 101) (M10 101) := fun j hj => by rw [show M10 101 = M9 101 from (by rw [hM10]; exact mu_cell _ _ (by decide))]; exact e25M9 j hj
        refine g_aload_n (pc' := 162) 3 dX10_evening_161 rfl rfl ?_
        refine g_iload_n (pc' := 163) 0 dX10_evening_162 rfl rfl ?_
        refine g_callVi (pc' := 166) (As := [vi z5]) (b := 97) (S := []) dX10_evening_163 rfl m_X10_87 w_X10_tell (c_X10_tell_x X M10 iM10 z5 ⟨by omega, by omega⟩ (by omega)) rfl ⟨_, _, _, rfl, rfl, rfl⟩ (by decide) (by decide) rfl (Nat.le_of_ble_eq_true rfl) (fun z12 M13 q11 => ?_)
        obtain ⟨iM13, fM130, eM13_99_0, eM13_99_1, eM13_99_2, eM13_99_3, eM13_100_0, eM13_100_1, eM13_100_2, eM13_100_3, eM13_100_49, eM13_100_50, eM13_100_51, eM13_100_52, eM13_103_0, eM13_103_1, eM13_97_12, eM13_97_17, eM13_97_33, eM13_97_10, eM13_97_44, pM13⟩ := q11
        have fM13 : Fr (fun c => c = 97 ∨ c = 98 ∨ c = 101 ∨ c = 104 ∨ c = 105 ∨ c = 107 ∨ c = 108 ∨ c = 109 ∨ c = 110 ∨ c = 111 ∨ c = 112) M M13 := Fr.tr fM10 fM130 fi_55
        have q99_0_M13 : (M13 99 0 = M 99 0) := eM13_99_0.trans q99_0_M10
        have q99_1_M13 : (M13 99 1 = M 99 1) := eM13_99_1.trans q99_1_M10
        have q99_2_M13 : (M13 99 2 = M 99 2) := eM13_99_2.trans q99_2_M10
        have q99_3_M13 : (M13 99 3 = M 99 3) := eM13_99_3.trans q99_3_M10
        have q100_0_M13 : id (M13 100 0 = M 100 0) := eM13_100_0.trans q100_0_M10
        have q100_1_M13 : id (M13 100 1 = M 100 1) := eM13_100_1.trans q100_1_M10
        have q100_2_M13 : id (M13 100 2 = M 100 2) := eM13_100_2.trans q100_2_M10
        have q100_3_M13 : id (M13 100 3 = M 100 3) := eM13_100_3.trans q100_3_M10
        have q100_49_M13 : id (M13 100 49 = M 100 49) := eM13_100_49.trans q100_49_M10
        have q100_50_M13 : id (M13 100 50 = M 100 50) := eM13_100_50.trans q100_50_M10
        have q100_51_M13 : id (M13 100 51 = M 100 51) := eM13_100_51.trans q100_51_M10
        have q100_52_M13 : id (M13 100 52 = M 100 52) := eM13_100_52.trans q100_52_M10
        have q103_0_M13 : id (M13 103 0 = M 103 0) := eM13_103_0.trans q103_0_M10
        have q103_1_M13 : id (M13 103 1 = M 103 1) := eM13_103_1.trans q103_1_M10
        have q97_10_M13 : (M13 97 10 = M 97 10) := eM13_97_10.trans q97_10_M10
        have q97_44_M13 : (M13 97 44 = M 97 44) := eM13_97_44.trans q97_44_M10
        have wM13_97_12 : M13 97 12 = M10 97 12 := eM13_97_12
        have wM13_97_17 : M13 97 17 = M10 97 17 := eM13_97_17
        have wM13_97_33 : M13 97 33 = M10 97 33 := eM13_97_33
        have xM13_97_33 : M13 97 33 = ci := eM13_97_33.trans xM10_97_33
        clear eM13_100_0 eM13_100_1 eM13_100_2 eM13_100_3 eM13_100_49 eM13_100_50 eM13_100_51 eM13_100_52 eM13_103_0 eM13_103_1
        have e25M13 : E25 (M 101) (M13 101) := fun j hj => by rw [fM130 101 (by decide)]; exact e25M10 j hj
        obtain ⟨anM13, asM13, a98M13⟩ := pM13
        rw [k98M10] at a98M13
        refine g_ireturn dX10_evening_166 ?_
        exact ⟨iM13, fM13, q99_0_M13, q99_1_M13, q99_2_M13, q99_3_M13, q100_0_M13, q100_1_M13, q100_2_M13, q100_3_M13, q100_49_M13, q100_50_M13, q100_51_M13, q100_52_M13, q103_0_M13, q103_1_M13, q97_10_M13, q97_44_M13, by omega, EVM.stop (t := t) ev (by omega) s1 cnt (by omega) eo es (by omega) (by rw [show z12 = z5 by omega]; exact mqM6.1) (by omega) (by omega) e25M13, by rw [anM13]; exact asM13, by rw [anM13]; exact a98M13⟩
set_option maxHeartbeats 4000000 in
set_option maxRecDepth 100000 in
theorem l_X10_evening_z_111 (X : Cx) (M : Mm) (hi : IM M) (K W S E : Nat → Int) (m : Nat) (hz : TZM M K W S E m) : ∀ (kk : Nat) (ci : Int) (M1 : Mm) (ic1 : IM M1) (fr1 : Fr (fun c => c = 97 ∨ c = 98 ∨ c = 101 ∨ c = 104 ∨ c = 105 ∨ c = 107 ∨ c = 108 ∨ c = 109 ∨ c = 110 ∨ c = 111 ∨ c = 112) M M1) (q99_0 : (M1 99 0 = M 99 0)) (q99_1 : (M1 99 1 = M 99 1)) (q99_2 : (M1 99 2 = M 99 2)) (q99_3 : (M1 99 3 = M 99 3)) (q100_0 : id (M1 100 0 = M 100 0)) (q100_1 : id (M1 100 1 = M 100 1)) (q100_2 : id (M1 100 2 = M 100 2)) (q100_3 : id (M1 100 3 = M 100 3)) (q100_49 : id (M1 100 49 = M 100 49)) (q100_50 : id (M1 100 50 = M 100 50)) (q100_51 : id (M1 100 51 = M 100 51)) (q100_52 : id (M1 100 52 = M 100 52)) (q103_0 : id (M1 103 0 = M 103 0)) (q103_1 : id (M1 103 1 = M 103 1)) (q97_10 : (M1 97 10 = M 97 10)) (q97_44 : (M1 97 44 = M 97 44)) (k98 : M1 98 = M 98) (cls1 : CLS M1) (kn1 : ∀ j : Nat, j < 25 → M1 104 (25 + j) = M 101 j) (tz : M1 97 12 = 0) (n1 : 0 ≤ M1 97 19 ∧ M1 97 19 ≤ 12) (v17 : Int) (e17 : M1 97 17 = v17) (ev : EVQ S (tXf K W 12 0 0) v17) (s1 : (tXf K W 12 0 0).1 = 1) (k33 : M1 97 33 = -1) (N : Nat) (hN : M1 97 19 = (N : Int)) (cnt : CNT K W N) (txm1 : TXM K W N M1) (hd1 : 0 ≤ M1 97 32 ∧ M1 97 32 ≤ 20 * ci) (hk : 0 ≤ ci ∧ ci ≤ M1 97 19) (mo : Nat → Int) (e25 : E25 mo (M1 101)) (eo : evC (M 99 0) (fun j => M 99 (4 + j)) K W (M 101) ci.toNat = (0, mo, M1 97 32)), (M1 97 19 - ci).toNat = kk → G X 12 RX10 cX10_evening 4 (some .int) (Qi (fun r M1 => IM M1 ∧ Fr (fun c => c = 97 ∨ c = 98 ∨ c = 101 ∨ c = 104 ∨ c = 105 ∨ c = 107 ∨ c = 108 ∨ c = 109 ∨ c = 110 ∨ c = 111 ∨ c = 112) M M1 ∧ M1 99 0 = M 99 0 ∧ M1 99 1 = M 99 1 ∧ M1 99 2 = M 99 2 ∧ M1 99 3 = M 99 3 ∧ M1 100 0 = M 100 0 ∧ M1 100 1 = M 100 1 ∧ M1 100 2 = M 100 2 ∧ M1 100 3 = M 100 3 ∧ M1 100 49 = M 100 49 ∧ M1 100 50 = M 100 50 ∧ M1 100 51 = M 100 51 ∧ M1 100 52 = M 100 52 ∧ M1 103 0 = M 103 0 ∧ M1 103 1 = M 103 1 ∧ M1 97 10 = M 97 10 ∧ M1 97 44 = M 97 44 ∧ ((inI r ∧ M1 97 12 = 0) ∧ EVM K W S (M 99 0) (fun j => M 99 (4 + j)) (M 101) M1 r ∧ M1 97 1 = ngv r ∧ M1 98 = telF (M 98) r))) 111 [(1, vi ci), (0, vr X 97)] [] M1 := by
  intro kk
  induction kk using Nat.strongRecOn with
  | ind kk ih =>
    intro ci M1 ic1 fr1 q99_0 q99_1 q99_2 q99_3 q100_0 q100_1 q100_2 q100_3 q100_49 q100_50 q100_51 q100_52 q103_0 q103_1 q97_10 q97_44 k98 cls1 kn1 tz n1 v17 e17 ev s1 k33 N hN cnt txm1 hd1 hk mo e25 eo hmes
    have p0 := hi.1.1
    have p1 := hi.1.2.1
    have p2 := hi.1.2.2.1
    have p3 := hi.1.2.2.2.1
    have p12 := hi.2.2.2.1
    refine g_iload_n (pc' := 112) 0 dX10_evening_111 rfl rfl ?_
    refine g_aload_n (pc' := 113) 1 dX10_evening_112 rfl rfl ?_
    refine g_getI (pc' := 116) dX10_evening_113 rfl f_X10_284 rfl rfl (fun v2 ev2 rv2 => ?_)
    refine g_ic_ge (pc' := 119) (tgt := 179) ⟨by omega, by omega⟩ rv2 dX10_evening_116 rfl rfl (fun c3 => ?_) (fun c3 => ?_)
    · refine g_aload_n (pc' := 180) 1 dX10_evening_179 rfl rfl ?_
      refine g_aload_n (pc' := 181) 1 dX10_evening_180 rfl rfl ?_
      refine g_getI (pc' := 184) dX10_evening_181 rfl f_X10_298 rfl rfl (fun v4 ev4 rv4 => ?_)
      refine g_callVi (pc' := 187) (As := [vi v4]) (b := 97) (S := []) dX10_evening_184 rfl m_X10_87 w_X10_tell (c_X10_tell_x X M1 ic1 v4 rv4 (by omega)) rfl ⟨_, _, _, rfl, rfl, rfl⟩ (by decide) (by decide) rfl (Nat.le_of_ble_eq_true rfl) (fun z6 M7 q5 => ?_)
      obtain ⟨iM7, fM70, eM7_99_0, eM7_99_1, eM7_99_2, eM7_99_3, eM7_100_0, eM7_100_1, eM7_100_2, eM7_100_3, eM7_100_49, eM7_100_50, eM7_100_51, eM7_100_52, eM7_103_0, eM7_103_1, eM7_97_12, eM7_97_17, eM7_97_33, eM7_97_10, eM7_97_44, pM7⟩ := q5
      have fM7 : Fr (fun c => c = 97 ∨ c = 98 ∨ c = 101 ∨ c = 104 ∨ c = 105 ∨ c = 107 ∨ c = 108 ∨ c = 109 ∨ c = 110 ∨ c = 111 ∨ c = 112) M M7 := Fr.tr fr1 fM70 fi_55
      have q99_0_M7 : (M7 99 0 = M 99 0) := eM7_99_0.trans q99_0
      have q99_1_M7 : (M7 99 1 = M 99 1) := eM7_99_1.trans q99_1
      have q99_2_M7 : (M7 99 2 = M 99 2) := eM7_99_2.trans q99_2
      have q99_3_M7 : (M7 99 3 = M 99 3) := eM7_99_3.trans q99_3
      have q100_0_M7 : id (M7 100 0 = M 100 0) := eM7_100_0.trans q100_0
      have q100_1_M7 : id (M7 100 1 = M 100 1) := eM7_100_1.trans q100_1
      have q100_2_M7 : id (M7 100 2 = M 100 2) := eM7_100_2.trans q100_2
      have q100_3_M7 : id (M7 100 3 = M 100 3) := eM7_100_3.trans q100_3
      have q100_49_M7 : id (M7 100 49 = M 100 49) := eM7_100_49.trans q100_49
      have q100_50_M7 : id (M7 100 50 = M 100 50) := eM7_100_50.trans q100_50
      have q100_51_M7 : id (M7 100 51 = M 100 51) := eM7_100_51.trans q100_51
      have q100_52_M7 : id (M7 100 52 = M 100 52) := eM7_100_52.trans q100_52
      have q103_0_M7 : id (M7 103 0 = M 103 0) := eM7_103_0.trans q103_0
      have q103_1_M7 : id (M7 103 1 = M 103 1) := eM7_103_1.trans q103_1
      have q97_10_M7 : (M7 97 10 = M 97 10) := eM7_97_10.trans q97_10
      have q97_44_M7 : (M7 97 44 = M 97 44) := eM7_97_44.trans q97_44
      have wM7_97_12 : M7 97 12 = M1 97 12 := eM7_97_12
      have wM7_97_17 : M7 97 17 = M1 97 17 := eM7_97_17
      have wM7_97_33 : M7 97 33 = M1 97 33 := eM7_97_33
      clear eM7_100_0 eM7_100_1 eM7_100_2 eM7_100_3 eM7_100_49 eM7_100_50 eM7_100_51 eM7_100_52 eM7_103_0 eM7_103_1
      have e25M7 : E25 mo (M7 101) := fun j hj => by rw [fM70 101 (by decide)]; exact e25 j hj
      obtain ⟨anM7, asM7, a98M7⟩ := pM7
      rw [k98] at a98M7
      refine g_ireturn dX10_evening_187 ?_
      exact ⟨iM7, fM7, q99_0_M7, q99_1_M7, q99_2_M7, q99_3_M7, q100_0_M7, q100_1_M7, q100_2_M7, q100_3_M7, q100_49_M7, q100_50_M7, q100_51_M7, q100_52_M7, q103_0_M7, q103_1_M7, q97_10_M7, q97_44_M7, by omega, EVM.done ev (by omega) s1 cnt (by omega) eo (by omega) (by omega) (by omega) e25M7, by rw [anM7]; exact asM7, by rw [anM7]; exact a98M7⟩
    · refine g_iconst (pc' := 120) dX10_evening_119 rfl ?_
      refine g_istore_n (pc' := 121) (i := 2) (L' := [(2, vi 0), (1, vi ci), (0, vr X 97)]) dX10_evening_120 rfl rfl (by decide) rfl ?_
      refine g_sub [1, 0, 2] rfl ?_
      exact l_X10_evening_z_121 X M hi K W S E m hz kk ih _ ci 0 M1 ic1 fr1 q99_0 q99_1 q99_2 q99_3 q100_0 q100_1 q100_2 q100_3 q100_49 q100_50 q100_51 q100_52 q103_0 q103_1 q97_10 q97_44 k98 cls1 kn1 (by omega) (by omega) v17 (by omega) ev s1 (by omega) N (by omega) cnt txm1 (by omega) (by omega) (by omega) (by omega) mo (M1 97 32) eo mo e25 rfl (by rw [← TXM.tm txm1 (by omega)]; exact (cls1 ci (by omega) (by omega)).2.2.2.1.1) rfl
set_option maxHeartbeats 4000000 in
set_option maxRecDepth 100000 in
theorem j_X10_evening_z_79 (X : Cx) (M : Mm) (hi : IM M) (K W S E : Nat → Int) (m : Nat) (hz : TZM M K W S E m)  (M1 : Mm) (ic1 : IM M1) (fr1 : Fr (fun c => c = 97 ∨ c = 98 ∨ c = 101 ∨ c = 104 ∨ c = 105 ∨ c = 107 ∨ c = 108 ∨ c = 109 ∨ c = 110 ∨ c = 111 ∨ c = 112) M M1) (q99_0 : (M1 99 0 = M 99 0)) (q99_1 : (M1 99 1 = M 99 1)) (q99_2 : (M1 99 2 = M 99 2)) (q99_3 : (M1 99 3 = M 99 3)) (q100_0 : id (M1 100 0 = M 100 0)) (q100_1 : id (M1 100 1 = M 100 1)) (q100_2 : id (M1 100 2 = M 100 2)) (q100_3 : id (M1 100 3 = M 100 3)) (q100_49 : id (M1 100 49 = M 100 49)) (q100_50 : id (M1 100 50 = M 100 50)) (q100_51 : id (M1 100 51 = M 100 51)) (q100_52 : id (M1 100 52 = M 100 52)) (q103_0 : id (M1 103 0 = M 103 0)) (q103_1 : id (M1 103 1 = M 103 1)) (q97_10 : (M1 97 10 = M 97 10)) (q97_44 : (M1 97 44 = M 97 44)) (k98 : M1 98 = M 98) (k33 : M1 97 33 = -1) (cb1 : CB M1) (n1 : (0 ≤ M1 97 19 ∧ M1 97 19 ≤ 12) ∧ (0 ≤ M1 97 21)) (c1 : M1 101 = M 101) (v17 : Int) (e17 : M1 97 17 = v17) (ev : EVQ S (tXf K W 12 0 0) v17) (t01 : T01q (M1 97 18) (tXf K W 12 0 0).1) (cnx : CNX K W M1) : G X 12 RX10 cX10_evening 4 (some .int) (Qi (fun r M1 => IM M1 ∧ Fr (fun c => c = 97 ∨ c = 98 ∨ c = 101 ∨ c = 104 ∨ c = 105 ∨ c = 107 ∨ c = 108 ∨ c = 109 ∨ c = 110 ∨ c = 111 ∨ c = 112) M M1 ∧ M1 99 0 = M 99 0 ∧ M1 99 1 = M 99 1 ∧ M1 99 2 = M 99 2 ∧ M1 99 3 = M 99 3 ∧ M1 100 0 = M 100 0 ∧ M1 100 1 = M 100 1 ∧ M1 100 2 = M 100 2 ∧ M1 100 3 = M 100 3 ∧ M1 100 49 = M 100 49 ∧ M1 100 50 = M 100 50 ∧ M1 100 51 = M 100 51 ∧ M1 100 52 = M 100 52 ∧ M1 103 0 = M 103 0 ∧ M1 103 1 = M 103 1 ∧ M1 97 10 = M 97 10 ∧ M1 97 44 = M 97 44 ∧ ((inI r ∧ M1 97 12 = 0) ∧ EVM K W S (M 99 0) (fun j => M 99 (4 + j)) (M 101) M1 r ∧ M1 97 1 = ngv r ∧ M1 98 = telF (M 98) r))) 79 [(0, vr X 97)] [] M1 := by
  have p0 := hi.1.1
  have p1 := hi.1.2.1
  have p2 := hi.1.2.2.1
  have p3 := hi.1.2.2.2.1
  have p12 := hi.2.2.2.1
  refine g_aload_n (pc' := 80) 0 dX10_evening_79 rfl rfl ?_
  refine g_iconst (pc' := 81) dX10_evening_80 rfl ?_
  refine g_putI (pc' := 84) dX10_evening_81 rfl p_X10_142 rfl rfl (by decide) (fun M2 hM2 => ?_)
  have iM2 : IM M2 := IM.wr ic1 hM2 (by unfold okv; first | decide | omega)
  have fM2 : Fr (fun c => c = 97 ∨ c = 98 ∨ c = 101 ∨ c = 104 ∨ c = 105 ∨ c = 107 ∨ c = 108 ∨ c = 109 ∨ c = 110 ∨ c = 111 ∨ c = 112) M M2 := Fr.wr fr1 hM2 (by first | decide | omega | (dsimp only; omega))
  have q99_0_M2 : (M2 99 0 = M 99 0) := (show M2 99 0 = M1 99 0 by rw [hM2]; exact mu_ne _ _ (by first | decide | omega)).trans q99_0
  have q99_1_M2 : (M2 99 1 = M 99 1) := (show M2 99 1 = M1 99 1 by rw [hM2]; exact mu_ne _ _ (by first | decide | omega)).trans q99_1
  have q99_2_M2 : (M2 99 2 = M 99 2) := (show M2 99 2 = M1 99 2 by rw [hM2]; exact mu_ne _ _ (by first | decide | omega)).trans q99_2
  have q99_3_M2 : (M2 99 3 = M 99 3) := (show M2 99 3 = M1 99 3 by rw [hM2]; exact mu_ne _ _ (by first | decide | omega)).trans q99_3
  have q100_0_M2 : id (M2 100 0 = M 100 0) := (show M2 100 0 = M1 100 0 by rw [hM2]; exact mu_ne _ _ (by first | decide | omega)).trans q100_0
  have q100_1_M2 : id (M2 100 1 = M 100 1) := (show M2 100 1 = M1 100 1 by rw [hM2]; exact mu_ne _ _ (by first | decide | omega)).trans q100_1
  have q100_2_M2 : id (M2 100 2 = M 100 2) := (show M2 100 2 = M1 100 2 by rw [hM2]; exact mu_ne _ _ (by first | decide | omega)).trans q100_2
  have q100_3_M2 : id (M2 100 3 = M 100 3) := (show M2 100 3 = M1 100 3 by rw [hM2]; exact mu_ne _ _ (by first | decide | omega)).trans q100_3
  have q100_49_M2 : id (M2 100 49 = M 100 49) := (show M2 100 49 = M1 100 49 by rw [hM2]; exact mu_ne _ _ (by first | decide | omega)).trans q100_49
  have q100_50_M2 : id (M2 100 50 = M 100 50) := (show M2 100 50 = M1 100 50 by rw [hM2]; exact mu_ne _ _ (by first | decide | omega)).trans q100_50
  have q100_51_M2 : id (M2 100 51 = M 100 51) := (show M2 100 51 = M1 100 51 by rw [hM2]; exact mu_ne _ _ (by first | decide | omega)).trans q100_51
  have q100_52_M2 : id (M2 100 52 = M 100 52) := (show M2 100 52 = M1 100 52 by rw [hM2]; exact mu_ne _ _ (by first | decide | omega)).trans q100_52
  have q103_0_M2 : id (M2 103 0 = M 103 0) := (show M2 103 0 = M1 103 0 by rw [hM2]; exact mu_ne _ _ (by first | decide | omega)).trans q103_0
  have q103_1_M2 : id (M2 103 1 = M 103 1) := (show M2 103 1 = M1 103 1 by rw [hM2]; exact mu_ne _ _ (by first | decide | omega)).trans q103_1
  have q97_10_M2 : (M2 97 10 = M 97 10) := (show M2 97 10 = M1 97 10 by rw [hM2]; exact mu_ne _ _ (by first | decide | omega)).trans q97_10
  have q97_44_M2 : (M2 97 44 = M 97 44) := (show M2 97 44 = M1 97 44 by rw [hM2]; exact mu_ne _ _ (by first | decide | omega)).trans q97_44
  have wM2_97_13 : M2 97 13 = M1 97 13 := by rw [hM2]; exact mu_ne _ _ (by first | decide | omega)
  have wM2_97_14 : M2 97 14 = M1 97 14 := by rw [hM2]; exact mu_ne _ _ (by first | decide | omega)
  have wM2_97_15 : M2 97 15 = M1 97 15 := by rw [hM2]; exact mu_ne _ _ (by first | decide | omega)
  have wM2_97_16 : M2 97 16 = M1 97 16 := by rw [hM2]; exact mu_ne _ _ (by first | decide | omega)
  have wM2_97_17 : M2 97 17 = M1 97 17 := by rw [hM2]; exact mu_ne _ _ (by first | decide | omega)
  have wM2_97_18 : M2 97 18 = M1 97 18 := by rw [hM2]; exact mu_ne _ _ (by first | decide | omega)
  have wM2_97_19 : M2 97 19 = M1 97 19 := by rw [hM2]; exact mu_ne _ _ (by first | decide | omega)
  have wM2_97_21 : M2 97 21 = M1 97 21 := by rw [hM2]; exact mu_ne _ _ (by first | decide | omega)
  have wM2_97_24 : M2 97 24 = M1 97 24 := by rw [hM2]; exact mu_ne _ _ (by first | decide | omega)
  have wM2_97_32 : M2 97 32 = M1 97 32 := by rw [hM2]; exact mu_ne _ _ (by first | decide | omega)
  have wM2_97_33 : M2 97 33 = M1 97 33 := by rw [hM2]; exact mu_ne _ _ (by first | decide | omega)
  have xM2_97_12 : M2 97 12 = 0 := by rw [hM2]; exact mu_at _ _ _ _
  have c1M2 : M2 101 = M 101 := (show M2 101 = M1 101 by rw [hM2, mu_cell _ _ (by decide)]).trans c1
  have cbM2 : CB M2 := CB.nx cb1 (by rw [hM2, mu_cell _ _ (by decide)]) (by rw [hM2, mu_cell _ _ (by decide)]) (by rw [hM2, mu_cell _ _ (by decide)]) (by omega) (by omega) (by omega)
  have k98M2 : M2 98 = M 98 := (show M2 98 = M1 98 from (by rw [hM2]; exact mu_cell _ _ (by decide))).trans k98
  have cnxM2 : CNX K W M2 := CNX.eq cnx (by rw [hM2]; exact mu_cell _ _ (by decide)) (by rw [hM2]; exact mu_cell _ _ (by decide)) (by rw [hM2]; exact mu_cell _ _ (by decide)) (by omega) (by omega) (by omega)
  have t01M2 : T01q (M2 97 18) (tXf K W 12 0 0).1 := by rw [show M2 97 18 = M1 97 18 by omega]; exact t01
  refine g_aload_n (pc' := 85) 0 dX10_evening_84 rfl rfl ?_
  refine g_getI (pc' := 88) dX10_evening_85 rfl f_X10_154 rfl rfl (fun v3 ev3 rv3 => ?_)
  refine g_if_eq (pc' := 91) (tgt := 98) rv3 dX10_evening_88 rfl rfl (fun c4 => ?_) (fun c4 => ?_)
  · have s1 := t01M2.1 (by omega)
    obtain ⟨N, hN, cnt, txm0⟩ := cnxM2 (by omega)
    refine g_aload_n (pc' := 99) 0 dX10_evening_98 rfl rfl ?_
    refine g_bipush (pc' := 101) (v := 25) dX10_evening_99 rfl (by decide) ?_
    refine g_callVv (pc' := 104) (As := [vi 25]) (b := 97) (S := []) dX10_evening_101 rfl m_X10_123 w_X10_keep (c_X10_keep X M2 25 (by decide) ⟨by omega, by omega⟩) rfl ⟨_, _, _, rfl, rfl, rfl⟩ (by decide) (by decide) rfl (Nat.le_of_ble_eq_true rfl) (fun M6 q5 => ?_)
    obtain ⟨fkM6, kpM6, usM6⟩ := q5
    have iM6 : IM M6 := IM.fr iM2 fkM6 (fun c z => by omega)
    have q99_0_M6 : M6 99 0 = M 99 0 := (congrFun (fkM6 99 (by omega)) 0).trans q99_0_M2
    have q99_1_M6 : M6 99 1 = M 99 1 := (congrFun (fkM6 99 (by omega)) 1).trans q99_1_M2
    have q99_2_M6 : M6 99 2 = M 99 2 := (congrFun (fkM6 99 (by omega)) 2).trans q99_2_M2
    have q99_3_M6 : M6 99 3 = M 99 3 := (congrFun (fkM6 99 (by omega)) 3).trans q99_3_M2
    have q100_0_M6 : M6 100 0 = M 100 0 := (congrFun (fkM6 100 (by omega)) 0).trans q100_0_M2
    have q100_1_M6 : M6 100 1 = M 100 1 := (congrFun (fkM6 100 (by omega)) 1).trans q100_1_M2
    have q100_2_M6 : M6 100 2 = M 100 2 := (congrFun (fkM6 100 (by omega)) 2).trans q100_2_M2
    have q100_3_M6 : M6 100 3 = M 100 3 := (congrFun (fkM6 100 (by omega)) 3).trans q100_3_M2
    have q100_49_M6 : M6 100 49 = M 100 49 := (congrFun (fkM6 100 (by omega)) 49).trans q100_49_M2
    have q100_50_M6 : M6 100 50 = M 100 50 := (congrFun (fkM6 100 (by omega)) 50).trans q100_50_M2
    have q100_51_M6 : M6 100 51 = M 100 51 := (congrFun (fkM6 100 (by omega)) 51).trans q100_51_M2
    have q100_52_M6 : M6 100 52 = M 100 52 := (congrFun (fkM6 100 (by omega)) 52).trans q100_52_M2
    have q103_0_M6 : M6 103 0 = M 103 0 := (congrFun (fkM6 103 (by omega)) 0).trans q103_0_M2
    have q103_1_M6 : M6 103 1 = M 103 1 := (congrFun (fkM6 103 (by omega)) 1).trans q103_1_M2
    have q97_10_M6 : M6 97 10 = M 97 10 := (congrFun (fkM6 97 (by omega)) 10).trans q97_10_M2
    have q97_44_M6 : M6 97 44 = M 97 44 := (congrFun (fkM6 97 (by omega)) 44).trans q97_44_M2
    have fM6 : Fr (fun c => c = 97 ∨ c = 98 ∨ c = 101 ∨ c = 104 ∨ c = 105 ∨ c = 107 ∨ c = 108 ∨ c = 109 ∨ c = 110 ∨ c = 111 ∨ c = 112) M M6 := Fr.tr fM2 fkM6 (fun c z => by omega)
    have wM6_97_12 := congrFun (fkM6 97 (by omega)) 12
    have wM6_97_13 := congrFun (fkM6 97 (by omega)) 13
    have wM6_97_14 := congrFun (fkM6 97 (by omega)) 14
    have wM6_97_15 := congrFun (fkM6 97 (by omega)) 15
    have wM6_97_16 := congrFun (fkM6 97 (by omega)) 16
    have wM6_97_17 := congrFun (fkM6 97 (by omega)) 17
    have wM6_97_18 := congrFun (fkM6 97 (by omega)) 18
    have wM6_97_19 := congrFun (fkM6 97 (by omega)) 19
    have wM6_97_21 := congrFun (fkM6 97 (by omega)) 21
    have wM6_97_24 := congrFun (fkM6 97 (by omega)) 24
    have wM6_97_32 := congrFun (fkM6 97 (by omega)) 32
    have wM6_97_33 := congrFun (fkM6 97 (by omega)) 33
    have knM6 : ∀ j : Nat, j < 25 → M6 104 (25 + j) = M 101 j := fun j hj => (kpM6 j hj).trans (by rw [c1M2])
    have clsM6 : CLS M6 := CLS.nx (cbM2 (by omega)) (fkM6 107 (by decide)) (fkM6 108 (by decide)) (fkM6 109 (by decide)) (by omega) (by omega)
    have m1M6 : M6 101 = M 101 := (fkM6 101 (by decide)).trans c1M2
    have e25M6 : E25 (M 101) (M6 101) := fun j _ => by rw [m1M6]
    have tmM6 : TXM K W N M6 := TXM.eq txm0 (fkM6 107 (by decide)) (fkM6 108 (by decide)) (fkM6 109 (by decide)) (by omega)
    have k98M6 : M6 98 = M 98 := (fkM6 98 (by decide)).trans k98M2
    refine g_aload_n (pc' := 105) 0 dX10_evening_104 rfl rfl ?_
    refine g_iconst (pc' := 106) dX10_evening_105 rfl ?_
    refine g_putI (pc' := 109) dX10_evening_106 rfl p_X10_298 rfl rfl (by decide) (fun M7 hM7 => ?_)
    have iM7 : IM M7 := IM.wr iM6 hM7 (by unfold okv; first | decide | omega)
    have fM7 : Fr (fun c => c = 97 ∨ c = 98 ∨ c = 101 ∨ c = 104 ∨ c = 105 ∨ c = 107 ∨ c = 108 ∨ c = 109 ∨ c = 110 ∨ c = 111 ∨ c = 112) M M7 := Fr.wr fM6 hM7 (by first | decide | omega | (dsimp only; omega))
    have q99_0_M7 : (M7 99 0 = M 99 0) := (show M7 99 0 = M6 99 0 by rw [hM7]; exact mu_ne _ _ (by first | decide | omega)).trans q99_0_M6
    have q99_1_M7 : (M7 99 1 = M 99 1) := (show M7 99 1 = M6 99 1 by rw [hM7]; exact mu_ne _ _ (by first | decide | omega)).trans q99_1_M6
    have q99_2_M7 : (M7 99 2 = M 99 2) := (show M7 99 2 = M6 99 2 by rw [hM7]; exact mu_ne _ _ (by first | decide | omega)).trans q99_2_M6
    have q99_3_M7 : (M7 99 3 = M 99 3) := (show M7 99 3 = M6 99 3 by rw [hM7]; exact mu_ne _ _ (by first | decide | omega)).trans q99_3_M6
    have q100_0_M7 : id (M7 100 0 = M 100 0) := (show M7 100 0 = M6 100 0 by rw [hM7]; exact mu_ne _ _ (by first | decide | omega)).trans q100_0_M6
    have q100_1_M7 : id (M7 100 1 = M 100 1) := (show M7 100 1 = M6 100 1 by rw [hM7]; exact mu_ne _ _ (by first | decide | omega)).trans q100_1_M6
    have q100_2_M7 : id (M7 100 2 = M 100 2) := (show M7 100 2 = M6 100 2 by rw [hM7]; exact mu_ne _ _ (by first | decide | omega)).trans q100_2_M6
    have q100_3_M7 : id (M7 100 3 = M 100 3) := (show M7 100 3 = M6 100 3 by rw [hM7]; exact mu_ne _ _ (by first | decide | omega)).trans q100_3_M6
    have q100_49_M7 : id (M7 100 49 = M 100 49) := (show M7 100 49 = M6 100 49 by rw [hM7]; exact mu_ne _ _ (by first | decide | omega)).trans q100_49_M6
    have q100_50_M7 : id (M7 100 50 = M 100 50) := (show M7 100 50 = M6 100 50 by rw [hM7]; exact mu_ne _ _ (by first | decide | omega)).trans q100_50_M6
    have q100_51_M7 : id (M7 100 51 = M 100 51) := (show M7 100 51 = M6 100 51 by rw [hM7]; exact mu_ne _ _ (by first | decide | omega)).trans q100_51_M6
    have q100_52_M7 : id (M7 100 52 = M 100 52) := (show M7 100 52 = M6 100 52 by rw [hM7]; exact mu_ne _ _ (by first | decide | omega)).trans q100_52_M6
    have q103_0_M7 : id (M7 103 0 = M 103 0) := (show M7 103 0 = M6 103 0 by rw [hM7]; exact mu_ne _ _ (by first | decide | omega)).trans q103_0_M6
    have q103_1_M7 : id (M7 103 1 = M 103 1) := (show M7 103 1 = M6 103 1 by rw [hM7]; exact mu_ne _ _ (by first | decide | omega)).trans q103_1_M6
    have q97_10_M7 : (M7 97 10 = M 97 10) := (show M7 97 10 = M6 97 10 by rw [hM7]; exact mu_ne _ _ (by first | decide | omega)).trans q97_10_M6
    have q97_44_M7 : (M7 97 44 = M 97 44) := (show M7 97 44 = M6 97 44 by rw [hM7]; exact mu_ne _ _ (by first | decide | omega)).trans q97_44_M6
    have wM7_97_12 : M7 97 12 = M6 97 12 := by rw [hM7]; exact mu_ne _ _ (by first | decide | omega)
    have wM7_97_13 : M7 97 13 = M6 97 13 := by rw [hM7]; exact mu_ne _ _ (by first | decide | omega)
    have wM7_97_14 : M7 97 14 = M6 97 14 := by rw [hM7]; exact mu_ne _ _ (by first | decide | omega)
    have wM7_97_15 : M7 97 15 = M6 97 15 := by rw [hM7]; exact mu_ne _ _ (by first | decide | omega)
    have wM7_97_16 : M7 97 16 = M6 97 16 := by rw [hM7]; exact mu_ne _ _ (by first | decide | omega)
    have wM7_97_17 : M7 97 17 = M6 97 17 := by rw [hM7]; exact mu_ne _ _ (by first | decide | omega)
    have wM7_97_18 : M7 97 18 = M6 97 18 := by rw [hM7]; exact mu_ne _ _ (by first | decide | omega)
    have wM7_97_19 : M7 97 19 = M6 97 19 := by rw [hM7]; exact mu_ne _ _ (by first | decide | omega)
    have wM7_97_21 : M7 97 21 = M6 97 21 := by rw [hM7]; exact mu_ne _ _ (by first | decide | omega)
    have wM7_97_24 : M7 97 24 = M6 97 24 := by rw [hM7]; exact mu_ne _ _ (by first | decide | omega)
    have wM7_97_33 : M7 97 33 = M6 97 33 := by rw [hM7]; exact mu_ne _ _ (by first | decide | omega)
    have xM7_97_32 : M7 97 32 = 0 := by rw [hM7]; exact mu_at _ _ _ _
    have knM7 : ∀ j : Nat, j < 25 → M7 104 (25 + j) = M 101 j := fun j hj => by rw [hM7, mu_cell _ _ (by decide)]; exact knM6 j hj
    have clsM7 : CLS M7 := CLS.nx clsM6 (by rw [hM7, mu_cell _ _ (by decide)]) (by rw [hM7, mu_cell _ _ (by decide)]) (by rw [hM7, mu_cell _ _ (by decide)]) (by omega) (by omega)
    have k98M7 : M7 98 = M 98 := (show M7 98 = M6 98 from (by rw [hM7]; exact mu_cell _ _ (by decide))).trans k98M6
    have tmM7 : TXM K W N M7 := TXM.eq tmM6 (by rw [hM7]; exact mu_cell _ _ (by decide)) (by rw [hM7]; exact mu_cell _ _ (by decide)) (by rw [hM7]; exact mu_cell _ _ (by decide)) (by omega)
    have e25M7 : E25 (M 101) (M7 101) := fun j hj => by rw [show M7 101 = M6 101 from (by rw [hM7]; exact mu_cell _ _ (by decide))]; exact e25M6 j hj
    refine g_iconst (pc' := 110) dX10_evening_109 rfl ?_
    refine g_istore_n (pc' := 111) (i := 1) (L' := [(1, vi 0), (0, vr X 97)]) dX10_evening_110 rfl rfl (by decide) rfl ?_
    refine g_sub [0, 1] rfl ?_
    exact l_X10_evening_z_111 X M hi K W S E m hz _ 0 M7 iM7 fM7 q99_0_M7 q99_1_M7 q99_2_M7 q99_3_M7 q100_0_M7 q100_1_M7 q100_2_M7 q100_3_M7 q100_49_M7 q100_50_M7 q100_51_M7 q100_52_M7 q103_0_M7 q103_1_M7 q97_10_M7 q97_44_M7 k98M7 clsM7 knM7 (by omega) (by omega) v17 (by omega) ev s1 (by omega) N (by omega) cnt tmM7 (by omega) (by omega) (M 101) e25M7 (by rw [show M7 97 32 = 0 by omega]; rfl) rfl
  · refine g_aload_n (pc' := 92) 0 dX10_evening_91 rfl rfl ?_
    refine g_bipush (pc' := 94) (v := (-6)) dX10_evening_92 rfl (by decide) ?_
    refine g_callVi (pc' := 97) (As := [vi (-6)]) (b := 97) (S := []) dX10_evening_94 rfl m_X10_87 w_X10_tell (c_X10_tell_x X M2 iM2 (-6) (by decide) (by omega)) rfl ⟨_, _, _, rfl, rfl, rfl⟩ (by decide) (by decide) rfl (Nat.le_of_ble_eq_true rfl) (fun z9 M10 q8 => ?_)
    obtain ⟨iM10, fM100, eM10_99_0, eM10_99_1, eM10_99_2, eM10_99_3, eM10_100_0, eM10_100_1, eM10_100_2, eM10_100_3, eM10_100_49, eM10_100_50, eM10_100_51, eM10_100_52, eM10_103_0, eM10_103_1, eM10_97_12, eM10_97_17, eM10_97_33, eM10_97_10, eM10_97_44, pM10⟩ := q8
    have fM10 : Fr (fun c => c = 97 ∨ c = 98 ∨ c = 101 ∨ c = 104 ∨ c = 105 ∨ c = 107 ∨ c = 108 ∨ c = 109 ∨ c = 110 ∨ c = 111 ∨ c = 112) M M10 := Fr.tr fM2 fM100 fi_55
    have q99_0_M10 : (M10 99 0 = M 99 0) := eM10_99_0.trans q99_0_M2
    have q99_1_M10 : (M10 99 1 = M 99 1) := eM10_99_1.trans q99_1_M2
    have q99_2_M10 : (M10 99 2 = M 99 2) := eM10_99_2.trans q99_2_M2
    have q99_3_M10 : (M10 99 3 = M 99 3) := eM10_99_3.trans q99_3_M2
    have q100_0_M10 : id (M10 100 0 = M 100 0) := eM10_100_0.trans q100_0_M2
    have q100_1_M10 : id (M10 100 1 = M 100 1) := eM10_100_1.trans q100_1_M2
    have q100_2_M10 : id (M10 100 2 = M 100 2) := eM10_100_2.trans q100_2_M2
    have q100_3_M10 : id (M10 100 3 = M 100 3) := eM10_100_3.trans q100_3_M2
    have q100_49_M10 : id (M10 100 49 = M 100 49) := eM10_100_49.trans q100_49_M2
    have q100_50_M10 : id (M10 100 50 = M 100 50) := eM10_100_50.trans q100_50_M2
    have q100_51_M10 : id (M10 100 51 = M 100 51) := eM10_100_51.trans q100_51_M2
    have q100_52_M10 : id (M10 100 52 = M 100 52) := eM10_100_52.trans q100_52_M2
    have q103_0_M10 : id (M10 103 0 = M 103 0) := eM10_103_0.trans q103_0_M2
    have q103_1_M10 : id (M10 103 1 = M 103 1) := eM10_103_1.trans q103_1_M2
    have q97_10_M10 : (M10 97 10 = M 97 10) := eM10_97_10.trans q97_10_M2
    have q97_44_M10 : (M10 97 44 = M 97 44) := eM10_97_44.trans q97_44_M2
    have wM10_97_12 : M10 97 12 = M2 97 12 := eM10_97_12
    have wM10_97_17 : M10 97 17 = M2 97 17 := eM10_97_17
    have wM10_97_33 : M10 97 33 = M2 97 33 := eM10_97_33
    have xM10_97_12 : M10 97 12 = 0 := eM10_97_12.trans xM2_97_12
    clear eM10_100_0 eM10_100_1 eM10_100_2 eM10_100_3 eM10_100_49 eM10_100_50 eM10_100_51 eM10_100_52 eM10_103_0 eM10_103_1
    have e25M10 : E25 (M 101) (M10 101) := fun j _ => by rw [fM100 101 (by decide), c1M2]
    obtain ⟨anM10, asM10, a98M10⟩ := pM10
    rw [k98M2] at a98M10
    refine g_ireturn dX10_evening_97 ?_
    exact ⟨iM10, fM10, q99_0_M10, q99_1_M10, q99_2_M10, q99_3_M10, q100_0_M10, q100_1_M10, q100_2_M10, q100_3_M10, q100_49_M10, q100_50_M10, q100_51_M10, q100_52_M10, q103_0_M10, q103_1_M10, q97_10_M10, q97_44_M10, by omega, EVM.bad ev (by omega) (t01M2.2 (by omega)) (by omega) (by omega) e25M10, by rw [anM10]; exact asM10, by rw [anM10]; exact a98M10⟩
set_option maxHeartbeats 4000000 in
set_option maxRecDepth 100000 in
theorem l_X10_evening_z_33 (X : Cx) (M : Mm) (hi : IM M) (K W S E : Nat → Int) (m : Nat) (hz : TZM M K W S E m) : ∀ (kk : Nat)  (M1 : Mm) (ic1 : IM M1) (fr1 : Fr (fun c => c = 97 ∨ c = 98 ∨ c = 101 ∨ c = 104 ∨ c = 105 ∨ c = 107 ∨ c = 108 ∨ c = 109 ∨ c = 110 ∨ c = 111 ∨ c = 112) M M1) (q99_0 : (M1 99 0 = M 99 0)) (q99_1 : (M1 99 1 = M 99 1)) (q99_2 : (M1 99 2 = M 99 2)) (q99_3 : (M1 99 3 = M 99 3)) (q100_0 : id (M1 100 0 = M 100 0)) (q100_1 : id (M1 100 1 = M 100 1)) (q100_2 : id (M1 100 2 = M 100 2)) (q100_3 : id (M1 100 3 = M 100 3)) (q100_49 : id (M1 100 49 = M 100 49)) (q100_50 : id (M1 100 50 = M 100 50)) (q100_51 : id (M1 100 51 = M 100 51)) (q100_52 : id (M1 100 52 = M 100 52)) (q103_0 : id (M1 103 0 = M 103 0)) (q103_1 : id (M1 103 1 = M 103 1)) (q97_10 : (M1 97 10 = M 97 10)) (q97_44 : (M1 97 44 = M 97 44)) (k98 : M1 98 = M 98) (k33 : M1 97 33 = -1) (tk1 : TK M1) (n2 : M1 97 21 ≤ M1 97 13) (tz1 : TZM M1 K W S E m) (cb1 : CB M1) (n1 : (0 ≤ M1 97 19 ∧ M1 97 19 ≤ 12) ∧ (0 ≤ M1 97 21)) (c1 : M1 101 = M 101) (nx : Int) (jx : Nat) (lx : Int) (hn : 0 ≤ nx ∧ nx ≤ 12) (cq1 : CLQ K W S E m jx lx nx M1) (tx : tXf K W 12 0 0 = tXf K W (12 - nx).toNat jx lx) (hp : clP K W nx.toNat = (jx, lx)) (cln : CLN K W nx.toNat) (txm1 : M1 97 18 = 0 → TXM K W (nx.toNat + 1) M1), (400 - M1 97 13).toNat = kk → G X 12 RX10 cX10_evening 4 (some .int) (Qi (fun r M1 => IM M1 ∧ Fr (fun c => c = 97 ∨ c = 98 ∨ c = 101 ∨ c = 104 ∨ c = 105 ∨ c = 107 ∨ c = 108 ∨ c = 109 ∨ c = 110 ∨ c = 111 ∨ c = 112) M M1 ∧ M1 99 0 = M 99 0 ∧ M1 99 1 = M 99 1 ∧ M1 99 2 = M 99 2 ∧ M1 99 3 = M 99 3 ∧ M1 100 0 = M 100 0 ∧ M1 100 1 = M 100 1 ∧ M1 100 2 = M 100 2 ∧ M1 100 3 = M 100 3 ∧ M1 100 49 = M 100 49 ∧ M1 100 50 = M 100 50 ∧ M1 100 51 = M 100 51 ∧ M1 100 52 = M 100 52 ∧ M1 103 0 = M 103 0 ∧ M1 103 1 = M 103 1 ∧ M1 97 10 = M 97 10 ∧ M1 97 44 = M 97 44 ∧ ((inI r ∧ M1 97 12 = 0) ∧ EVM K W S (M 99 0) (fun j => M 99 (4 + j)) (M 101) M1 r ∧ M1 97 1 = ngv r ∧ M1 98 = telF (M 98) r))) 33 [(0, vr X 97)] [] M1 := by
  intro kk
  induction kk using Nat.strongRecOn with
  | ind kk ih =>
    intro M1 ic1 fr1 q99_0 q99_1 q99_2 q99_3 q100_0 q100_1 q100_2 q100_3 q100_49 q100_50 q100_51 q100_52 q103_0 q103_1 q97_10 q97_44 k98 k33 tk1 n2 tz1 cb1 n1 c1 nx jx lx hn cq1 tx hp cln txm1 hmes
    have p0 := hi.1.1
    have p1 := hi.1.2.1
    have p2 := hi.1.2.2.1
    have p3 := hi.1.2.2.2.1
    have p12 := hi.2.2.2.1
    have p12b := ic1.2.2.2.1
    have tb1 := tk1.b
    have lt1 := tk1.lt
    refine g_aload_n (pc' := 34) 0 dX10_evening_33 rfl rfl ?_
    refine g_getI (pc' := 37) dX10_evening_34 rfl f_X10_154 rfl rfl (fun v2 ev2 rv2 => ?_)
    refine g_if_ne (pc' := 40) (tgt := 60) rv2 dX10_evening_37 rfl rfl (fun c3 => ?_) (fun c3 => ?_)
    · refine g_aload_n (pc' := 61) 0 dX10_evening_60 rfl rfl ?_
      refine g_getI (pc' := 64) dX10_evening_61 rfl f_X10_154 rfl rfl (fun v4 ev4 rv4 => ?_)
      obtain rfl : v2 = v4 := ev2.trans ev4.symm
      refine g_if_ne (pc' := 67) (tgt := 79) rv2 dX10_evening_64 rfl rfl (fun c5 => ?_) (fun c5 => ?_)
      · refine g_sub [0] rfl ?_
        exact j_X10_evening_z_79 X M hi K W S E m hz M1 ic1 fr1 q99_0 q99_1 q99_2 q99_3 q100_0 q100_1 q100_2 q100_3 q100_49 q100_50 q100_51 q100_52 q103_0 q103_1 q97_10 q97_44 k98 (by omega) cb1 (by omega) c1 (M1 97 17) rfl (by first | exact (TXG.b tx cq1 (by omega)).ev | exact (TXG.e tz1 tx cq1 (by omega) (by omega)).ev | exact False.elim (by omega)) (by first | exact (TXG.b tx cq1 (by omega)).t01 | exact (TXG.e tz1 tx cq1 (by omega) (by omega)).t01 | exact False.elim (by omega)) (by first | exact CNX.b (by omega) | exact CNX.e tz1 cq1 (by omega) hp cln txm1 (by omega) | exact False.elim (by omega))
      · refine g_aload_n (pc' := 68) 0 dX10_evening_67 rfl rfl ?_
        refine g_getI (pc' := 71) dX10_evening_68 rfl f_X10_174 rfl rfl (fun v6 ev6 rv6 => ?_)
        refine g_if_eq (pc' := 74) (tgt := 79) rv6 dX10_evening_71 rfl rfl (fun c7 => ?_) (fun c7 => ?_)
        · refine g_sub [0] rfl ?_
          exact j_X10_evening_z_79 X M hi K W S E m hz M1 ic1 fr1 q99_0 q99_1 q99_2 q99_3 q100_0 q100_1 q100_2 q100_3 q100_49 q100_50 q100_51 q100_52 q103_0 q103_1 q97_10 q97_44 k98 (by omega) cb1 (by omega) c1 (M1 97 17) rfl (by first | exact (TXG.b tx cq1 (by omega)).ev | exact (TXG.e tz1 tx cq1 (by omega) (by omega)).ev | exact False.elim (by omega)) (by first | exact (TXG.b tx cq1 (by omega)).t01 | exact (TXG.e tz1 tx cq1 (by omega) (by omega)).t01 | exact False.elim (by omega)) (by first | exact CNX.b (by omega) | exact CNX.e tz1 cq1 (by omega) hp cln txm1 (by omega) | exact False.elim (by omega))
        · refine g_aload_n (pc' := 75) 0 dX10_evening_74 rfl rfl ?_
          refine g_iconst (pc' := 76) dX10_evening_75 rfl ?_
          refine g_callVv (pc' := 79) (As := [vi 0]) (b := 97) (S := []) dX10_evening_76 rfl m_X10_187 w_X10_must (c_X10_must_x X M1 ic1 0 (by decide) tk1) rfl ⟨_, _, _, rfl, rfl, rfl⟩ (by decide) (by decide) rfl (Nat.le_of_ble_eq_true rfl) (fun M9 q8 => ?_)
          obtain ⟨iM9, fM90, eM9_97_12, eM9_97_19, eM9_97_21, eM9_97_24, eM9_97_27, eM9_97_28, eM9_97_10, eM9_97_44, eM9_97_33, pM9⟩ := q8
          have fM9 : Fr (fun c => c = 97 ∨ c = 98 ∨ c = 101 ∨ c = 104 ∨ c = 105 ∨ c = 107 ∨ c = 108 ∨ c = 109 ∨ c = 110 ∨ c = 111 ∨ c = 112) M M9 := Fr.tr fr1 fM90 fi_56
          have q99_0_M9 : (M9 99 0 = M 99 0) := (congrFun (fM90 99 (by first | decide | omega | (dsimp only; omega))) 0).trans q99_0
          have q99_1_M9 : (M9 99 1 = M 99 1) := (congrFun (fM90 99 (by first | decide | omega | (dsimp only; omega))) 1).trans q99_1
          have q99_2_M9 : (M9 99 2 = M 99 2) := (congrFun (fM90 99 (by first | decide | omega | (dsimp only; omega))) 2).trans q99_2
          have q99_3_M9 : (M9 99 3 = M 99 3) := (congrFun (fM90 99 (by first | decide | omega | (dsimp only; omega))) 3).trans q99_3
          have q100_0_M9 : id (M9 100 0 = M 100 0) := (congrFun (fM90 100 (by first | decide | omega | (dsimp only; omega))) 0).trans q100_0
          have q100_1_M9 : id (M9 100 1 = M 100 1) := (congrFun (fM90 100 (by first | decide | omega | (dsimp only; omega))) 1).trans q100_1
          have q100_2_M9 : id (M9 100 2 = M 100 2) := (congrFun (fM90 100 (by first | decide | omega | (dsimp only; omega))) 2).trans q100_2
          have q100_3_M9 : id (M9 100 3 = M 100 3) := (congrFun (fM90 100 (by first | decide | omega | (dsimp only; omega))) 3).trans q100_3
          have q100_49_M9 : id (M9 100 49 = M 100 49) := (congrFun (fM90 100 (by first | decide | omega | (dsimp only; omega))) 49).trans q100_49
          have q100_50_M9 : id (M9 100 50 = M 100 50) := (congrFun (fM90 100 (by first | decide | omega | (dsimp only; omega))) 50).trans q100_50
          have q100_51_M9 : id (M9 100 51 = M 100 51) := (congrFun (fM90 100 (by first | decide | omega | (dsimp only; omega))) 51).trans q100_51
          have q100_52_M9 : id (M9 100 52 = M 100 52) := (congrFun (fM90 100 (by first | decide | omega | (dsimp only; omega))) 52).trans q100_52
          have q103_0_M9 : id (M9 103 0 = M 103 0) := (congrFun (fM90 103 (by first | decide | omega | (dsimp only; omega))) 0).trans q103_0
          have q103_1_M9 : id (M9 103 1 = M 103 1) := (congrFun (fM90 103 (by first | decide | omega | (dsimp only; omega))) 1).trans q103_1
          have q97_10_M9 : (M9 97 10 = M 97 10) := eM9_97_10.trans q97_10
          have q97_44_M9 : (M9 97 44 = M 97 44) := eM9_97_44.trans q97_44
          have wM9_97_12 : M9 97 12 = M1 97 12 := eM9_97_12
          have wM9_97_19 : M9 97 19 = M1 97 19 := eM9_97_19
          have wM9_97_21 : M9 97 21 = M1 97 21 := eM9_97_21
          have wM9_97_24 : M9 97 24 = M1 97 24 := eM9_97_24
          have wM9_97_33 : M9 97 33 = M1 97 33 := eM9_97_33
          have tzM9 : TZM M9 K W S E m := TZM.eq tz1 (fM90 106 (by decide)) eM9_97_12
          have c1M9 : M9 101 = M 101 := (fM90 101 (by decide)).trans c1
          obtain ⟨xxM9, aM9p, bM9p, cM9p, kM9p⟩ := pM9
          have tkM9 : TK M9 := kM9p
          clear kM9p
          have tbM9 := tkM9.b
          have cbM9 : CB M9 := CB.nx cb1 (fM90 107 (by decide)) (fM90 108 (by decide)) (fM90 109 (by decide)) (by omega) (by omega) (by omega)
          have k98M9 : M9 98 = M 98 := (fM90 98 (by decide)).trans k98
          refine g_sub [0] rfl ?_
          exact j_X10_evening_z_79 X M hi K W S E m hz M9 iM9 fM9 q99_0_M9 q99_1_M9 q99_2_M9 q99_3_M9 q100_0_M9 q100_1_M9 q100_2_M9 q100_3_M9 q100_49_M9 q100_50_M9 q100_51_M9 q100_52_M9 q103_0_M9 q103_1_M9 q97_10_M9 q97_44_M9 k98M9 (by omega) cbM9 (by omega) c1M9 (M9 97 17) rfl (by first | exact (TXG.m_ tz1 tx cq1 (by omega) (by omega) (by omega) xxM9).ev | exact False.elim (by omega)) (by first | exact (TXG.m_ tz1 tx cq1 (by omega) (by omega) (by omega) xxM9).t01 | exact False.elim (by omega)) (by first | exact CNX.b (by omega) | exact False.elim (by omega))
    · refine g_aload_n (pc' := 41) 0 dX10_evening_40 rfl rfl ?_
      refine g_bipush (pc' := 43) (v := 59) dX10_evening_41 rfl (by decide) ?_
      refine g_callVip (pc' := 46) (As := [vi 59]) (b := 97) (S := []) dX10_evening_43 rfl m_X10_221 w_X10_isSign (c_X10_isSign_x X M1 ic1 59 (by decide)) rfl ⟨_, _, _, rfl, rfl, rfl⟩ (by decide) (by decide) rfl (Nat.le_of_ble_eq_true rfl) (fun z11 q10 => ?_)
      refine g_if_eq (pc' := 49) (tgt := 60) ⟨by omega, by omega⟩ dX10_evening_46 rfl rfl (fun c12 => ?_) (fun c12 => ?_)
      · replace q10 := q10.resolve_left (fun h => absurd (c12.symm.trans h.1) (by decide))
        refine g_aload_n (pc' := 61) 0 dX10_evening_60 rfl rfl ?_
        refine g_getI (pc' := 64) dX10_evening_61 rfl f_X10_154 rfl rfl (fun v13 ev13 rv13 => ?_)
        obtain rfl : v2 = v13 := ev2.trans ev13.symm
        refine g_if_ne (pc' := 67) (tgt := 79) rv2 dX10_evening_64 rfl rfl (fun c14 => ?_) (fun c14 => ?_)
        · refine g_sub [0] rfl ?_
          exact j_X10_evening_z_79 X M hi K W S E m hz M1 ic1 fr1 q99_0 q99_1 q99_2 q99_3 q100_0 q100_1 q100_2 q100_3 q100_49 q100_50 q100_51 q100_52 q103_0 q103_1 q97_10 q97_44 k98 (by omega) cb1 (by omega) c1 (M1 97 17) rfl (by first | exact (TXG.b tx cq1 (by omega)).ev | exact (TXG.e tz1 tx cq1 (by omega) (by omega)).ev | exact False.elim (by omega)) (by first | exact (TXG.b tx cq1 (by omega)).t01 | exact (TXG.e tz1 tx cq1 (by omega) (by omega)).t01 | exact False.elim (by omega)) (by first | exact CNX.b (by omega) | exact CNX.e tz1 cq1 (by omega) hp cln txm1 (by omega) | exact False.elim (by omega))
        · refine g_aload_n (pc' := 68) 0 dX10_evening_67 rfl rfl ?_
          refine g_getI (pc' := 71) dX10_evening_68 rfl f_X10_174 rfl rfl (fun v15 ev15 rv15 => ?_)
          refine g_if_eq (pc' := 74) (tgt := 79) rv15 dX10_evening_71 rfl rfl (fun c16 => ?_) (fun c16 => ?_)
          · refine g_sub [0] rfl ?_
            exact j_X10_evening_z_79 X M hi K W S E m hz M1 ic1 fr1 q99_0 q99_1 q99_2 q99_3 q100_0 q100_1 q100_2 q100_3 q100_49 q100_50 q100_51 q100_52 q103_0 q103_1 q97_10 q97_44 k98 (by omega) cb1 (by omega) c1 (M1 97 17) rfl (by first | exact (TXG.b tx cq1 (by omega)).ev | exact (TXG.e tz1 tx cq1 (by omega) (by omega)).ev | exact False.elim (by omega)) (by first | exact (TXG.b tx cq1 (by omega)).t01 | exact (TXG.e tz1 tx cq1 (by omega) (by omega)).t01 | exact False.elim (by omega)) (by first | exact CNX.b (by omega) | exact CNX.e tz1 cq1 (by omega) hp cln txm1 (by omega) | exact False.elim (by omega))
          · refine g_aload_n (pc' := 75) 0 dX10_evening_74 rfl rfl ?_
            refine g_iconst (pc' := 76) dX10_evening_75 rfl ?_
            refine g_callVv (pc' := 79) (As := [vi 0]) (b := 97) (S := []) dX10_evening_76 rfl m_X10_187 w_X10_must (c_X10_must_x X M1 ic1 0 (by decide) tk1) rfl ⟨_, _, _, rfl, rfl, rfl⟩ (by decide) (by decide) rfl (Nat.le_of_ble_eq_true rfl) (fun M18 q17 => ?_)
            obtain ⟨iM18, fM180, eM18_97_12, eM18_97_19, eM18_97_21, eM18_97_24, eM18_97_27, eM18_97_28, eM18_97_10, eM18_97_44, eM18_97_33, pM18⟩ := q17
            have fM18 : Fr (fun c => c = 97 ∨ c = 98 ∨ c = 101 ∨ c = 104 ∨ c = 105 ∨ c = 107 ∨ c = 108 ∨ c = 109 ∨ c = 110 ∨ c = 111 ∨ c = 112) M M18 := Fr.tr fr1 fM180 fi_56
            have q99_0_M18 : (M18 99 0 = M 99 0) := (congrFun (fM180 99 (by first | decide | omega | (dsimp only; omega))) 0).trans q99_0
            have q99_1_M18 : (M18 99 1 = M 99 1) := (congrFun (fM180 99 (by first | decide | omega | (dsimp only; omega))) 1).trans q99_1
            have q99_2_M18 : (M18 99 2 = M 99 2) := (congrFun (fM180 99 (by first | decide | omega | (dsimp only; omega))) 2).trans q99_2
            have q99_3_M18 : (M18 99 3 = M 99 3) := (congrFun (fM180 99 (by first | decide | omega | (dsimp only; omega))) 3).trans q99_3
            have q100_0_M18 : id (M18 100 0 = M 100 0) := (congrFun (fM180 100 (by first | decide | omega | (dsimp only; omega))) 0).trans q100_0
            have q100_1_M18 : id (M18 100 1 = M 100 1) := (congrFun (fM180 100 (by first | decide | omega | (dsimp only; omega))) 1).trans q100_1
            have q100_2_M18 : id (M18 100 2 = M 100 2) := (congrFun (fM180 100 (by first | decide | omega | (dsimp only; omega))) 2).trans q100_2
            have q100_3_M18 : id (M18 100 3 = M 100 3) := (congrFun (fM180 100 (by first | decide | omega | (dsimp only; omega))) 3).trans q100_3
            have q100_49_M18 : id (M18 100 49 = M 100 49) := (congrFun (fM180 100 (by first | decide | omega | (dsimp only; omega))) 49).trans q100_49
            have q100_50_M18 : id (M18 100 50 = M 100 50) := (congrFun (fM180 100 (by first | decide | omega | (dsimp only; omega))) 50).trans q100_50
            have q100_51_M18 : id (M18 100 51 = M 100 51) := (congrFun (fM180 100 (by first | decide | omega | (dsimp only; omega))) 51).trans q100_51
            have q100_52_M18 : id (M18 100 52 = M 100 52) := (congrFun (fM180 100 (by first | decide | omega | (dsimp only; omega))) 52).trans q100_52
            have q103_0_M18 : id (M18 103 0 = M 103 0) := (congrFun (fM180 103 (by first | decide | omega | (dsimp only; omega))) 0).trans q103_0
            have q103_1_M18 : id (M18 103 1 = M 103 1) := (congrFun (fM180 103 (by first | decide | omega | (dsimp only; omega))) 1).trans q103_1
            have q97_10_M18 : (M18 97 10 = M 97 10) := eM18_97_10.trans q97_10
            have q97_44_M18 : (M18 97 44 = M 97 44) := eM18_97_44.trans q97_44
            have wM18_97_12 : M18 97 12 = M1 97 12 := eM18_97_12
            have wM18_97_19 : M18 97 19 = M1 97 19 := eM18_97_19
            have wM18_97_21 : M18 97 21 = M1 97 21 := eM18_97_21
            have wM18_97_24 : M18 97 24 = M1 97 24 := eM18_97_24
            have wM18_97_33 : M18 97 33 = M1 97 33 := eM18_97_33
            have tzM18 : TZM M18 K W S E m := TZM.eq tz1 (fM180 106 (by decide)) eM18_97_12
            have c1M18 : M18 101 = M 101 := (fM180 101 (by decide)).trans c1
            obtain ⟨xxM18, aM18p, bM18p, cM18p, kM18p⟩ := pM18
            have tkM18 : TK M18 := kM18p
            clear kM18p
            have tbM18 := tkM18.b
            have cbM18 : CB M18 := CB.nx cb1 (fM180 107 (by decide)) (fM180 108 (by decide)) (fM180 109 (by decide)) (by omega) (by omega) (by omega)
            have k98M18 : M18 98 = M 98 := (fM180 98 (by decide)).trans k98
            refine g_sub [0] rfl ?_
            exact j_X10_evening_z_79 X M hi K W S E m hz M18 iM18 fM18 q99_0_M18 q99_1_M18 q99_2_M18 q99_3_M18 q100_0_M18 q100_1_M18 q100_2_M18 q100_3_M18 q100_49_M18 q100_50_M18 q100_51_M18 q100_52_M18 q103_0_M18 q103_1_M18 q97_10_M18 q97_44_M18 k98M18 (by omega) cbM18 (by omega) c1M18 (M18 97 17) rfl (by first | exact (TXG.m_ tz1 tx cq1 (by omega) (by omega) (by omega) xxM18).ev | exact False.elim (by omega)) (by first | exact (TXG.m_ tz1 tx cq1 (by omega) (by omega) (by omega) xxM18).t01 | exact False.elim (by omega)) (by first | exact CNX.b (by omega) | exact False.elim (by omega))
      · replace q10 := q10.resolve_right (fun h => c12 h.1)
        obtain ⟨cn0, cm0, jj, ll, ja, jb, jc⟩ := cq1.1 (by omega)
        have aw0 := ja.w tz1
        have cp_ := clP_s hp (jc.s1 rfl)
        refine g_aload_n (pc' := 50) 0 dX10_evening_49 rfl rfl ?_
        refine g_callVv (pc' := 53) (As := []) (b := 97) (S := []) dX10_evening_50 rfl m_X10_158 w_X10_next (c_X10_next_x X M1 ic1 (by omega)) rfl ⟨_, _, _, rfl, rfl, rfl⟩ (by decide) (by decide) rfl (Nat.le_of_ble_eq_true rfl) (fun M20 q19 => ?_)
        obtain ⟨iM20, fM200, eM20_97_12, eM20_97_19, eM20_97_21, eM20_97_24, eM20_97_27, eM20_97_28, eM20_97_10, eM20_97_44, eM20_97_33, eM20_97_18, eM20_97_17, pM20⟩ := q19
        have fM20 : Fr (fun c => c = 97 ∨ c = 98 ∨ c = 101 ∨ c = 104 ∨ c = 105 ∨ c = 107 ∨ c = 108 ∨ c = 109 ∨ c = 110 ∨ c = 111 ∨ c = 112) M M20 := Fr.tr fr1 fM200 fi_56
        have q99_0_M20 : (M20 99 0 = M 99 0) := (congrFun (fM200 99 (by first | decide | omega | (dsimp only; omega))) 0).trans q99_0
        have q99_1_M20 : (M20 99 1 = M 99 1) := (congrFun (fM200 99 (by first | decide | omega | (dsimp only; omega))) 1).trans q99_1
        have q99_2_M20 : (M20 99 2 = M 99 2) := (congrFun (fM200 99 (by first | decide | omega | (dsimp only; omega))) 2).trans q99_2
        have q99_3_M20 : (M20 99 3 = M 99 3) := (congrFun (fM200 99 (by first | decide | omega | (dsimp only; omega))) 3).trans q99_3
        have q100_0_M20 : id (M20 100 0 = M 100 0) := (congrFun (fM200 100 (by first | decide | omega | (dsimp only; omega))) 0).trans q100_0
        have q100_1_M20 : id (M20 100 1 = M 100 1) := (congrFun (fM200 100 (by first | decide | omega | (dsimp only; omega))) 1).trans q100_1
        have q100_2_M20 : id (M20 100 2 = M 100 2) := (congrFun (fM200 100 (by first | decide | omega | (dsimp only; omega))) 2).trans q100_2
        have q100_3_M20 : id (M20 100 3 = M 100 3) := (congrFun (fM200 100 (by first | decide | omega | (dsimp only; omega))) 3).trans q100_3
        have q100_49_M20 : id (M20 100 49 = M 100 49) := (congrFun (fM200 100 (by first | decide | omega | (dsimp only; omega))) 49).trans q100_49
        have q100_50_M20 : id (M20 100 50 = M 100 50) := (congrFun (fM200 100 (by first | decide | omega | (dsimp only; omega))) 50).trans q100_50
        have q100_51_M20 : id (M20 100 51 = M 100 51) := (congrFun (fM200 100 (by first | decide | omega | (dsimp only; omega))) 51).trans q100_51
        have q100_52_M20 : id (M20 100 52 = M 100 52) := (congrFun (fM200 100 (by first | decide | omega | (dsimp only; omega))) 52).trans q100_52
        have q103_0_M20 : id (M20 103 0 = M 103 0) := (congrFun (fM200 103 (by first | decide | omega | (dsimp only; omega))) 0).trans q103_0
        have q103_1_M20 : id (M20 103 1 = M 103 1) := (congrFun (fM200 103 (by first | decide | omega | (dsimp only; omega))) 1).trans q103_1
        have q97_10_M20 : (M20 97 10 = M 97 10) := eM20_97_10.trans q97_10
        have q97_44_M20 : (M20 97 44 = M 97 44) := eM20_97_44.trans q97_44
        have wM20_97_12 : M20 97 12 = M1 97 12 := eM20_97_12
        have wM20_97_17 : M20 97 17 = M1 97 17 := eM20_97_17
        have wM20_97_18 : M20 97 18 = M1 97 18 := eM20_97_18
        have wM20_97_19 : M20 97 19 = M1 97 19 := eM20_97_19
        have wM20_97_21 : M20 97 21 = M1 97 21 := eM20_97_21
        have wM20_97_24 : M20 97 24 = M1 97 24 := eM20_97_24
        have wM20_97_33 : M20 97 33 = M1 97 33 := eM20_97_33
        have tzM20 : TZM M20 K W S E m := TZM.eq tz1 (fM200 106 (by decide)) eM20_97_12
        have c1M20 : M20 101 = M 101 := (fM200 101 (by decide)).trans c1
        obtain ⟨xxM20, aM20p, kM20p⟩ := pM20
        have tkM20 : TK M20 := kM20p
        clear kM20p
        have tbM20 := tkM20.b
        have cbM20 : CB M20 := CB.nx cb1 (fM200 107 (by decide)) (fM200 108 (by decide)) (fM200 109 (by decide)) (by omega) (by omega) (by omega)
        have atM20 : AT K W S E m M20 (jj + 1) := AT.nx tz1 ja (by omega) xxM20 (by omega)
        have tmM20 : TXM K W (nx.toNat + 1) M20 := TXM.eq (txm1 (by omega)) (fM200 107 (by decide)) (fM200 108 (by decide)) (fM200 109 (by decide)) (by omega)
        have k98M20 : M20 98 = M 98 := (fM200 98 (by decide)).trans k98
        refine g_aload_n (pc' := 54) 0 dX10_evening_53 rfl rfl ?_
        refine g_callVv (pc' := 57) (As := []) (b := 97) (S := []) dX10_evening_54 rfl m_X10_325 w_X10_readClause (c_X10_readClause_z X M20 iM20 tkM20 (by omega) (by omega) (by omega) (cbM20 (by omega)) K W S E m (jj + 1) ll tzM20 atM20 (by omega)) rfl ⟨_, _, _, rfl, rfl, rfl⟩ (by decide) (by decide) rfl (Nat.le_of_ble_eq_true rfl) (fun M22 q21 => ?_)
        obtain ⟨iM22, fM220, eM22_97_12, eM22_97_10, eM22_97_44, eM22_97_33, pM22⟩ := q21
        have fM22 : Fr (fun c => c = 97 ∨ c = 98 ∨ c = 101 ∨ c = 104 ∨ c = 105 ∨ c = 107 ∨ c = 108 ∨ c = 109 ∨ c = 110 ∨ c = 111 ∨ c = 112) M M22 := Fr.tr fM20 fM220 fi_57
        have q99_0_M22 : (M22 99 0 = M 99 0) := (congrFun (fM220 99 (by first | decide | omega | (dsimp only; omega))) 0).trans q99_0_M20
        have q99_1_M22 : (M22 99 1 = M 99 1) := (congrFun (fM220 99 (by first | decide | omega | (dsimp only; omega))) 1).trans q99_1_M20
        have q99_2_M22 : (M22 99 2 = M 99 2) := (congrFun (fM220 99 (by first | decide | omega | (dsimp only; omega))) 2).trans q99_2_M20
        have q99_3_M22 : (M22 99 3 = M 99 3) := (congrFun (fM220 99 (by first | decide | omega | (dsimp only; omega))) 3).trans q99_3_M20
        have q100_0_M22 : id (M22 100 0 = M 100 0) := (congrFun (fM220 100 (by first | decide | omega | (dsimp only; omega))) 0).trans q100_0_M20
        have q100_1_M22 : id (M22 100 1 = M 100 1) := (congrFun (fM220 100 (by first | decide | omega | (dsimp only; omega))) 1).trans q100_1_M20
        have q100_2_M22 : id (M22 100 2 = M 100 2) := (congrFun (fM220 100 (by first | decide | omega | (dsimp only; omega))) 2).trans q100_2_M20
        have q100_3_M22 : id (M22 100 3 = M 100 3) := (congrFun (fM220 100 (by first | decide | omega | (dsimp only; omega))) 3).trans q100_3_M20
        have q100_49_M22 : id (M22 100 49 = M 100 49) := (congrFun (fM220 100 (by first | decide | omega | (dsimp only; omega))) 49).trans q100_49_M20
        have q100_50_M22 : id (M22 100 50 = M 100 50) := (congrFun (fM220 100 (by first | decide | omega | (dsimp only; omega))) 50).trans q100_50_M20
        have q100_51_M22 : id (M22 100 51 = M 100 51) := (congrFun (fM220 100 (by first | decide | omega | (dsimp only; omega))) 51).trans q100_51_M20
        have q100_52_M22 : id (M22 100 52 = M 100 52) := (congrFun (fM220 100 (by first | decide | omega | (dsimp only; omega))) 52).trans q100_52_M20
        have q103_0_M22 : id (M22 103 0 = M 103 0) := (congrFun (fM220 103 (by first | decide | omega | (dsimp only; omega))) 0).trans q103_0_M20
        have q103_1_M22 : id (M22 103 1 = M 103 1) := (congrFun (fM220 103 (by first | decide | omega | (dsimp only; omega))) 1).trans q103_1_M20
        have q97_10_M22 : (M22 97 10 = M 97 10) := eM22_97_10.trans q97_10_M20
        have q97_44_M22 : (M22 97 44 = M 97 44) := eM22_97_44.trans q97_44_M20
        have wM22_97_12 : M22 97 12 = M20 97 12 := eM22_97_12
        have wM22_97_33 : M22 97 33 = M20 97 33 := eM22_97_33
        have tzM22 : TZM M22 K W S E m := TZM.eq tzM20 (fM220 106 (by decide)) eM22_97_12
        have c1M22 : M22 101 = M 101 := (fM220 101 (by decide)).trans c1M20
        obtain ⟨cqM22, tkM22, naM22, nbM22, ncM22, cbM22, zcM22⟩ := pM22
        have tbM22 := tkM22.b
        have k98M22 : M22 98 = M 98 := (fM220 98 (by decide)).trans k98M20
        refine g_goto (tgt := 33) dX10_evening_57 rfl ?_
        refine g_sub [0] rfl ?_
        exact ih _ (by omega) M22 iM22 fM22 q99_0_M22 q99_1_M22 q99_2_M22 q99_3_M22 q100_0_M22 q100_1_M22 q100_2_M22 q100_3_M22 q100_49_M22 q100_50_M22 q100_51_M22 q100_52_M22 q103_0_M22 q103_1_M22 q97_10_M22 q97_44_M22 k98M22 (by omega) tkM22 (by omega) tzM22 cbM22 (by omega) c1M22 (M20 97 19) (jj + 1) ll (by omega) cqM22 (by
            rw [show M20 97 19 = nx + 1 by omega]
            exact TXG.g tx (by omega) jc (by omega)) (by rw [show (M20 97 19).toNat = nx.toNat + 1 by omega]; exact cp_.2) (by rw [show (M20 97 19).toNat = nx.toNat + 1 by omega]; exact cln.add (by rw [cp_.1]; omega)) (fun z => TXM.rd (by rw [show (M20 97 19).toNat = nx.toNat + 1 by omega]; exact tmM20) ⟨by omega, rfl⟩ (by rw [show (M20 97 19).toNat = nx.toNat + 1 by omega, cp_.2]; exact zcM22 z)) rfl
set_option maxHeartbeats 4000000 in
set_option maxRecDepth 100000 in
theorem c_X10_evening_z (X : Cx) (M : Mm) (hi : IM M) (K W S E : Nat → Int) (m : Nat) (hz : TZM M K W S E m) : Con X 12 yX10_evening cX10_evening 4 (some .int) [vr X 97] M (Qi (fun r M1 => IM M1 ∧ Fr (fun c => c = 97 ∨ c = 98 ∨ c = 101 ∨ c = 104 ∨ c = 105 ∨ c = 107 ∨ c = 108 ∨ c = 109 ∨ c = 110 ∨ c = 111 ∨ c = 112) M M1 ∧ M1 99 0 = M 99 0 ∧ M1 99 1 = M 99 1 ∧ M1 99 2 = M 99 2 ∧ M1 99 3 = M 99 3 ∧ M1 100 0 = M 100 0 ∧ M1 100 1 = M 100 1 ∧ M1 100 2 = M 100 2 ∧ M1 100 3 = M 100 3 ∧ M1 100 49 = M 100 49 ∧ M1 100 50 = M 100 50 ∧ M1 100 51 = M 100 51 ∧ M1 100 52 = M 100 52 ∧ M1 103 0 = M 103 0 ∧ M1 103 1 = M 103 1 ∧ M1 97 10 = M 97 10 ∧ M1 97 44 = M 97 44 ∧ ((inI r ∧ M1 97 12 = 0) ∧ EVM K W S (M 99 0) (fun j => M 99 (4 + j)) (M 101) M1 r ∧ M1 97 1 = ngv r ∧ M1 98 = telF (M 98) r))) := by
  refine Con.ofG rfl (Nat.le_of_ble_eq_true rfl) ?_
  show G X 12 RX10 cX10_evening 4 (some .int) (Qi (fun r M1 => IM M1 ∧ Fr (fun c => c = 97 ∨ c = 98 ∨ c = 101 ∨ c = 104 ∨ c = 105 ∨ c = 107 ∨ c = 108 ∨ c = 109 ∨ c = 110 ∨ c = 111 ∨ c = 112) M M1 ∧ M1 99 0 = M 99 0 ∧ M1 99 1 = M 99 1 ∧ M1 99 2 = M 99 2 ∧ M1 99 3 = M 99 3 ∧ M1 100 0 = M 100 0 ∧ M1 100 1 = M 100 1 ∧ M1 100 2 = M 100 2 ∧ M1 100 3 = M 100 3 ∧ M1 100 49 = M 100 49 ∧ M1 100 50 = M 100 50 ∧ M1 100 51 = M 100 51 ∧ M1 100 52 = M 100 52 ∧ M1 103 0 = M 103 0 ∧ M1 103 1 = M 103 1 ∧ M1 97 10 = M 97 10 ∧ M1 97 44 = M 97 44 ∧ ((inI r ∧ M1 97 12 = 0) ∧ EVM K W S (M 99 0) (fun j => M 99 (4 + j)) (M 101) M1 r ∧ M1 97 1 = ngv r ∧ M1 98 = telF (M 98) r))) 0 [(0, vr X 97)] [] M
  have p0 := hi.1.1
  have p1 := hi.1.2.1
  have p2 := hi.1.2.2.1
  have p3 := hi.1.2.2.2.1
  have p12 := hi.2.2.2.1
  refine g_aload_n (pc' := 1) 0 dX10_evening_0 rfl rfl ?_
  refine g_iconst (pc' := 2) dX10_evening_1 rfl ?_
  refine g_putI (pc' := 5) dX10_evening_2 rfl p_X10_77 rfl rfl (by decide) (fun M2 hM2 => ?_)
  have iM2 : IM M2 := IM.wr hi hM2 (by unfold okv; first | decide | omega)
  have fM2 : Fr (fun c => c = 97 ∨ c = 98 ∨ c = 101 ∨ c = 104 ∨ c = 105 ∨ c = 107 ∨ c = 108 ∨ c = 109 ∨ c = 110 ∨ c = 111 ∨ c = 112) M M2 := Fr.wr Fr.rf hM2 (by first | decide | omega | (dsimp only; omega))
  have q99_0_M2 : (M2 99 0 = M 99 0) := (show M2 99 0 = M 99 0 by rw [hM2]; exact mu_ne _ _ (by first | decide | omega))
  have q99_1_M2 : (M2 99 1 = M 99 1) := (show M2 99 1 = M 99 1 by rw [hM2]; exact mu_ne _ _ (by first | decide | omega))
  have q99_2_M2 : (M2 99 2 = M 99 2) := (show M2 99 2 = M 99 2 by rw [hM2]; exact mu_ne _ _ (by first | decide | omega))
  have q99_3_M2 : (M2 99 3 = M 99 3) := (show M2 99 3 = M 99 3 by rw [hM2]; exact mu_ne _ _ (by first | decide | omega))
  have q100_0_M2 : id (M2 100 0 = M 100 0) := (show M2 100 0 = M 100 0 by rw [hM2]; exact mu_ne _ _ (by first | decide | omega))
  have q100_1_M2 : id (M2 100 1 = M 100 1) := (show M2 100 1 = M 100 1 by rw [hM2]; exact mu_ne _ _ (by first | decide | omega))
  have q100_2_M2 : id (M2 100 2 = M 100 2) := (show M2 100 2 = M 100 2 by rw [hM2]; exact mu_ne _ _ (by first | decide | omega))
  have q100_3_M2 : id (M2 100 3 = M 100 3) := (show M2 100 3 = M 100 3 by rw [hM2]; exact mu_ne _ _ (by first | decide | omega))
  have q100_49_M2 : id (M2 100 49 = M 100 49) := (show M2 100 49 = M 100 49 by rw [hM2]; exact mu_ne _ _ (by first | decide | omega))
  have q100_50_M2 : id (M2 100 50 = M 100 50) := (show M2 100 50 = M 100 50 by rw [hM2]; exact mu_ne _ _ (by first | decide | omega))
  have q100_51_M2 : id (M2 100 51 = M 100 51) := (show M2 100 51 = M 100 51 by rw [hM2]; exact mu_ne _ _ (by first | decide | omega))
  have q100_52_M2 : id (M2 100 52 = M 100 52) := (show M2 100 52 = M 100 52 by rw [hM2]; exact mu_ne _ _ (by first | decide | omega))
  have q103_0_M2 : id (M2 103 0 = M 103 0) := (show M2 103 0 = M 103 0 by rw [hM2]; exact mu_ne _ _ (by first | decide | omega))
  have q103_1_M2 : id (M2 103 1 = M 103 1) := (show M2 103 1 = M 103 1 by rw [hM2]; exact mu_ne _ _ (by first | decide | omega))
  have q97_10_M2 : (M2 97 10 = M 97 10) := (show M2 97 10 = M 97 10 by rw [hM2]; exact mu_ne _ _ (by first | decide | omega))
  have q97_44_M2 : (M2 97 44 = M 97 44) := (show M2 97 44 = M 97 44 by rw [hM2]; exact mu_ne _ _ (by first | decide | omega))
  have q97_12_M2 : (M2 97 12 = M 97 12) := (show M2 97 12 = M 97 12 by rw [hM2]; exact mu_ne _ _ (by first | decide | omega))
  have q97_17_M2 : (M2 97 17 = M 97 17) := (show M2 97 17 = M 97 17 by rw [hM2]; exact mu_ne _ _ (by first | decide | omega))
  have q97_33_M2 : (M2 97 33 = M 97 33) := (show M2 97 33 = M 97 33 by rw [hM2]; exact mu_ne _ _ (by first | decide | omega))
  have q97_1_M2 : (M2 97 1 = M 97 1) := (show M2 97 1 = M 97 1 by rw [hM2]; exact mu_ne _ _ (by first | decide | omega))
  have wM2_97_12 : M2 97 12 = M 97 12 := by rw [hM2]; exact mu_ne _ _ (by first | decide | omega)
  have wM2_97_13 : M2 97 13 = M 97 13 := by rw [hM2]; exact mu_ne _ _ (by first | decide | omega)
  have wM2_97_14 : M2 97 14 = M 97 14 := by rw [hM2]; exact mu_ne _ _ (by first | decide | omega)
  have wM2_97_15 : M2 97 15 = M 97 15 := by rw [hM2]; exact mu_ne _ _ (by first | decide | omega)
  have wM2_97_16 : M2 97 16 = M 97 16 := by rw [hM2]; exact mu_ne _ _ (by first | decide | omega)
  have wM2_97_17 : M2 97 17 = M 97 17 := by rw [hM2]; exact mu_ne _ _ (by first | decide | omega)
  have wM2_97_18 : M2 97 18 = M 97 18 := by rw [hM2]; exact mu_ne _ _ (by first | decide | omega)
  have wM2_97_19 : M2 97 19 = M 97 19 := by rw [hM2]; exact mu_ne _ _ (by first | decide | omega)
  have wM2_97_21 : M2 97 21 = M 97 21 := by rw [hM2]; exact mu_ne _ _ (by first | decide | omega)
  have wM2_97_24 : M2 97 24 = M 97 24 := by rw [hM2]; exact mu_ne _ _ (by first | decide | omega)
  have wM2_97_32 : M2 97 32 = M 97 32 := by rw [hM2]; exact mu_ne _ _ (by first | decide | omega)
  have wM2_97_33 : M2 97 33 = M 97 33 := by rw [hM2]; exact mu_ne _ _ (by first | decide | omega)
  have xM2_97_0 : M2 97 0 = 0 := by rw [hM2]; exact mu_at _ _ _ _
  have c1M2 : M2 101 = M 101 := (show M2 101 = M 101 by rw [hM2, mu_cell _ _ (by decide)])
  have k98M2 : M2 98 = M 98 := (show M2 98 = M 98 from (by rw [hM2]; exact mu_cell _ _ (by decide)))
  have tzM2 : TZM M2 K W S E m := TZM.eq hz (by rw [hM2]; exact mu_cell _ _ (by decide)) (show M2 97 12 = M 97 12 by rw [hM2]; exact mu_ne _ _ (by first | decide | omega))
  refine g_aload_n (pc' := 6) 0 dX10_evening_5 rfl rfl ?_
  refine g_callVv (pc' := 9) (As := []) (b := 97) (S := []) dX10_evening_6 rfl m_X10_322 w_X10_begin (c_X10_begin_x X M2 iM2) rfl ⟨_, _, _, rfl, rfl, rfl⟩ (by decide) (by decide) rfl (Nat.le_of_ble_eq_true rfl) (fun M4 q3 => ?_)
  obtain ⟨iM4, fM40, eM4_97_12, eM4_97_19, eM4_97_21, eM4_97_24, eM4_97_27, eM4_97_28, eM4_97_10, eM4_97_44, eM4_97_33, pM4⟩ := q3
  have fM4 : Fr (fun c => c = 97 ∨ c = 98 ∨ c = 101 ∨ c = 104 ∨ c = 105 ∨ c = 107 ∨ c = 108 ∨ c = 109 ∨ c = 110 ∨ c = 111 ∨ c = 112) M M4 := Fr.tr fM2 fM40 fi_56
  have q99_0_M4 : (M4 99 0 = M 99 0) := (congrFun (fM40 99 (by first | decide | omega | (dsimp only; omega))) 0).trans q99_0_M2
  have q99_1_M4 : (M4 99 1 = M 99 1) := (congrFun (fM40 99 (by first | decide | omega | (dsimp only; omega))) 1).trans q99_1_M2
  have q99_2_M4 : (M4 99 2 = M 99 2) := (congrFun (fM40 99 (by first | decide | omega | (dsimp only; omega))) 2).trans q99_2_M2
  have q99_3_M4 : (M4 99 3 = M 99 3) := (congrFun (fM40 99 (by first | decide | omega | (dsimp only; omega))) 3).trans q99_3_M2
  have q100_0_M4 : id (M4 100 0 = M 100 0) := (congrFun (fM40 100 (by first | decide | omega | (dsimp only; omega))) 0).trans q100_0_M2
  have q100_1_M4 : id (M4 100 1 = M 100 1) := (congrFun (fM40 100 (by first | decide | omega | (dsimp only; omega))) 1).trans q100_1_M2
  have q100_2_M4 : id (M4 100 2 = M 100 2) := (congrFun (fM40 100 (by first | decide | omega | (dsimp only; omega))) 2).trans q100_2_M2
  have q100_3_M4 : id (M4 100 3 = M 100 3) := (congrFun (fM40 100 (by first | decide | omega | (dsimp only; omega))) 3).trans q100_3_M2
  have q100_49_M4 : id (M4 100 49 = M 100 49) := (congrFun (fM40 100 (by first | decide | omega | (dsimp only; omega))) 49).trans q100_49_M2
  have q100_50_M4 : id (M4 100 50 = M 100 50) := (congrFun (fM40 100 (by first | decide | omega | (dsimp only; omega))) 50).trans q100_50_M2
  have q100_51_M4 : id (M4 100 51 = M 100 51) := (congrFun (fM40 100 (by first | decide | omega | (dsimp only; omega))) 51).trans q100_51_M2
  have q100_52_M4 : id (M4 100 52 = M 100 52) := (congrFun (fM40 100 (by first | decide | omega | (dsimp only; omega))) 52).trans q100_52_M2
  have q103_0_M4 : id (M4 103 0 = M 103 0) := (congrFun (fM40 103 (by first | decide | omega | (dsimp only; omega))) 0).trans q103_0_M2
  have q103_1_M4 : id (M4 103 1 = M 103 1) := (congrFun (fM40 103 (by first | decide | omega | (dsimp only; omega))) 1).trans q103_1_M2
  have q97_10_M4 : (M4 97 10 = M 97 10) := eM4_97_10.trans q97_10_M2
  have q97_44_M4 : (M4 97 44 = M 97 44) := eM4_97_44.trans q97_44_M2
  have q97_12_M4 : (M4 97 12 = M 97 12) := eM4_97_12.trans q97_12_M2
  have q97_33_M4 : (M4 97 33 = M 97 33) := eM4_97_33.trans q97_33_M2
  have wM4_97_12 : M4 97 12 = M2 97 12 := eM4_97_12
  have wM4_97_19 : M4 97 19 = M2 97 19 := eM4_97_19
  have wM4_97_21 : M4 97 21 = M2 97 21 := eM4_97_21
  have wM4_97_24 : M4 97 24 = M2 97 24 := eM4_97_24
  have wM4_97_33 : M4 97 33 = M2 97 33 := eM4_97_33
  have tzM4 : TZM M4 K W S E m := TZM.eq tzM2 (fM40 106 (by decide)) eM4_97_12
  have c1M4 : M4 101 = M 101 := (fM40 101 (by decide)).trans c1M2
  obtain ⟨⟨b7M4, nqM4⟩, bdM4, kM4p⟩ := pM4
  have tkM4 : TK M4 := kM4p
  clear kM4p
  have tbM4 := tkM4.b
  have atM4 : AT K W S E m M4 0 := AT.first tzM2 nqM4 (by omega)
  have k98M4 : M4 98 = M 98 := (fM40 98 (by decide)).trans k98M2
  refine g_aload_n (pc' := 10) 0 dX10_evening_9 rfl rfl ?_
  refine g_iconst (pc' := 11) dX10_evening_10 rfl ?_
  refine g_putI (pc' := 14) dX10_evening_11 rfl p_X10_284 rfl rfl (by decide) (fun M5 hM5 => ?_)
  have iM5 : IM M5 := IM.wr iM4 hM5 (by unfold okv; first | decide | omega)
  have fM5 : Fr (fun c => c = 97 ∨ c = 98 ∨ c = 101 ∨ c = 104 ∨ c = 105 ∨ c = 107 ∨ c = 108 ∨ c = 109 ∨ c = 110 ∨ c = 111 ∨ c = 112) M M5 := Fr.wr fM4 hM5 (by first | decide | omega | (dsimp only; omega))
  have q99_0_M5 : (M5 99 0 = M 99 0) := (show M5 99 0 = M4 99 0 by rw [hM5]; exact mu_ne _ _ (by first | decide | omega)).trans q99_0_M4
  have q99_1_M5 : (M5 99 1 = M 99 1) := (show M5 99 1 = M4 99 1 by rw [hM5]; exact mu_ne _ _ (by first | decide | omega)).trans q99_1_M4
  have q99_2_M5 : (M5 99 2 = M 99 2) := (show M5 99 2 = M4 99 2 by rw [hM5]; exact mu_ne _ _ (by first | decide | omega)).trans q99_2_M4
  have q99_3_M5 : (M5 99 3 = M 99 3) := (show M5 99 3 = M4 99 3 by rw [hM5]; exact mu_ne _ _ (by first | decide | omega)).trans q99_3_M4
  have q100_0_M5 : id (M5 100 0 = M 100 0) := (show M5 100 0 = M4 100 0 by rw [hM5]; exact mu_ne _ _ (by first | decide | omega)).trans q100_0_M4
  have q100_1_M5 : id (M5 100 1 = M 100 1) := (show M5 100 1 = M4 100 1 by rw [hM5]; exact mu_ne _ _ (by first | decide | omega)).trans q100_1_M4
  have q100_2_M5 : id (M5 100 2 = M 100 2) := (show M5 100 2 = M4 100 2 by rw [hM5]; exact mu_ne _ _ (by first | decide | omega)).trans q100_2_M4
  have q100_3_M5 : id (M5 100 3 = M 100 3) := (show M5 100 3 = M4 100 3 by rw [hM5]; exact mu_ne _ _ (by first | decide | omega)).trans q100_3_M4
  have q100_49_M5 : id (M5 100 49 = M 100 49) := (show M5 100 49 = M4 100 49 by rw [hM5]; exact mu_ne _ _ (by first | decide | omega)).trans q100_49_M4
  have q100_50_M5 : id (M5 100 50 = M 100 50) := (show M5 100 50 = M4 100 50 by rw [hM5]; exact mu_ne _ _ (by first | decide | omega)).trans q100_50_M4
  have q100_51_M5 : id (M5 100 51 = M 100 51) := (show M5 100 51 = M4 100 51 by rw [hM5]; exact mu_ne _ _ (by first | decide | omega)).trans q100_51_M4
  have q100_52_M5 : id (M5 100 52 = M 100 52) := (show M5 100 52 = M4 100 52 by rw [hM5]; exact mu_ne _ _ (by first | decide | omega)).trans q100_52_M4
  have q103_0_M5 : id (M5 103 0 = M 103 0) := (show M5 103 0 = M4 103 0 by rw [hM5]; exact mu_ne _ _ (by first | decide | omega)).trans q103_0_M4
  have q103_1_M5 : id (M5 103 1 = M 103 1) := (show M5 103 1 = M4 103 1 by rw [hM5]; exact mu_ne _ _ (by first | decide | omega)).trans q103_1_M4
  have q97_10_M5 : (M5 97 10 = M 97 10) := (show M5 97 10 = M4 97 10 by rw [hM5]; exact mu_ne _ _ (by first | decide | omega)).trans q97_10_M4
  have q97_44_M5 : (M5 97 44 = M 97 44) := (show M5 97 44 = M4 97 44 by rw [hM5]; exact mu_ne _ _ (by first | decide | omega)).trans q97_44_M4
  have q97_12_M5 : (M5 97 12 = M 97 12) := (show M5 97 12 = M4 97 12 by rw [hM5]; exact mu_ne _ _ (by first | decide | omega)).trans q97_12_M4
  have q97_33_M5 : (M5 97 33 = M 97 33) := (show M5 97 33 = M4 97 33 by rw [hM5]; exact mu_ne _ _ (by first | decide | omega)).trans q97_33_M4
  have wM5_97_12 : M5 97 12 = M4 97 12 := by rw [hM5]; exact mu_ne _ _ (by first | decide | omega)
  have wM5_97_13 : M5 97 13 = M4 97 13 := by rw [hM5]; exact mu_ne _ _ (by first | decide | omega)
  have wM5_97_14 : M5 97 14 = M4 97 14 := by rw [hM5]; exact mu_ne _ _ (by first | decide | omega)
  have wM5_97_15 : M5 97 15 = M4 97 15 := by rw [hM5]; exact mu_ne _ _ (by first | decide | omega)
  have wM5_97_16 : M5 97 16 = M4 97 16 := by rw [hM5]; exact mu_ne _ _ (by first | decide | omega)
  have wM5_97_17 : M5 97 17 = M4 97 17 := by rw [hM5]; exact mu_ne _ _ (by first | decide | omega)
  have wM5_97_18 : M5 97 18 = M4 97 18 := by rw [hM5]; exact mu_ne _ _ (by first | decide | omega)
  have wM5_97_21 : M5 97 21 = M4 97 21 := by rw [hM5]; exact mu_ne _ _ (by first | decide | omega)
  have wM5_97_24 : M5 97 24 = M4 97 24 := by rw [hM5]; exact mu_ne _ _ (by first | decide | omega)
  have wM5_97_32 : M5 97 32 = M4 97 32 := by rw [hM5]; exact mu_ne _ _ (by first | decide | omega)
  have wM5_97_33 : M5 97 33 = M4 97 33 := by rw [hM5]; exact mu_ne _ _ (by first | decide | omega)
  have xM5_97_19 : M5 97 19 = 0 := by rw [hM5]; exact mu_at _ _ _ _
  have c1M5 : M5 101 = M 101 := (show M5 101 = M4 101 by rw [hM5, mu_cell _ _ (by decide)]).trans c1M4
  have tkM5 : TK M5 := TK.eq tkM4 (show M5 97 12 = M4 97 12 by rw [hM5]; exact mu_ne _ _ (by first | decide | omega)) (show M5 97 13 = M4 97 13 by rw [hM5]; exact mu_ne _ _ (by first | decide | omega)) (show M5 97 14 = M4 97 14 by rw [hM5]; exact mu_ne _ _ (by first | decide | omega)) (show M5 97 15 = M4 97 15 by rw [hM5]; exact mu_ne _ _ (by first | decide | omega)) (show M5 97 16 = M4 97 16 by rw [hM5]; exact mu_ne _ _ (by first | decide | omega))
  have k98M5 : M5 98 = M 98 := (show M5 98 = M4 98 from (by rw [hM5]; exact mu_cell _ _ (by decide))).trans k98M4
  have tzM5 : TZM M5 K W S E m := TZM.eq tzM4 (by rw [hM5]; exact mu_cell _ _ (by decide)) (show M5 97 12 = M4 97 12 by rw [hM5]; exact mu_ne _ _ (by first | decide | omega))
  have atM5 : AT K W S E m M5 0 := AT.eq atM4 (by omega) (by omega) (by omega) (by omega) (by omega)
  refine g_aload_n (pc' := 15) 0 dX10_evening_14 rfl rfl ?_
  refine g_iconst (pc' := 16) dX10_evening_15 rfl ?_
  refine g_putI (pc' := 19) dX10_evening_16 rfl p_X10_191 rfl rfl (by decide) (fun M6 hM6 => ?_)
  have iM6 : IM M6 := IM.wr iM5 hM6 (by unfold okv; first | decide | omega)
  have fM6 : Fr (fun c => c = 97 ∨ c = 98 ∨ c = 101 ∨ c = 104 ∨ c = 105 ∨ c = 107 ∨ c = 108 ∨ c = 109 ∨ c = 110 ∨ c = 111 ∨ c = 112) M M6 := Fr.wr fM5 hM6 (by first | decide | omega | (dsimp only; omega))
  have q99_0_M6 : (M6 99 0 = M 99 0) := (show M6 99 0 = M5 99 0 by rw [hM6]; exact mu_ne _ _ (by first | decide | omega)).trans q99_0_M5
  have q99_1_M6 : (M6 99 1 = M 99 1) := (show M6 99 1 = M5 99 1 by rw [hM6]; exact mu_ne _ _ (by first | decide | omega)).trans q99_1_M5
  have q99_2_M6 : (M6 99 2 = M 99 2) := (show M6 99 2 = M5 99 2 by rw [hM6]; exact mu_ne _ _ (by first | decide | omega)).trans q99_2_M5
  have q99_3_M6 : (M6 99 3 = M 99 3) := (show M6 99 3 = M5 99 3 by rw [hM6]; exact mu_ne _ _ (by first | decide | omega)).trans q99_3_M5
  have q100_0_M6 : id (M6 100 0 = M 100 0) := (show M6 100 0 = M5 100 0 by rw [hM6]; exact mu_ne _ _ (by first | decide | omega)).trans q100_0_M5
  have q100_1_M6 : id (M6 100 1 = M 100 1) := (show M6 100 1 = M5 100 1 by rw [hM6]; exact mu_ne _ _ (by first | decide | omega)).trans q100_1_M5
  have q100_2_M6 : id (M6 100 2 = M 100 2) := (show M6 100 2 = M5 100 2 by rw [hM6]; exact mu_ne _ _ (by first | decide | omega)).trans q100_2_M5
  have q100_3_M6 : id (M6 100 3 = M 100 3) := (show M6 100 3 = M5 100 3 by rw [hM6]; exact mu_ne _ _ (by first | decide | omega)).trans q100_3_M5
  have q100_49_M6 : id (M6 100 49 = M 100 49) := (show M6 100 49 = M5 100 49 by rw [hM6]; exact mu_ne _ _ (by first | decide | omega)).trans q100_49_M5
  have q100_50_M6 : id (M6 100 50 = M 100 50) := (show M6 100 50 = M5 100 50 by rw [hM6]; exact mu_ne _ _ (by first | decide | omega)).trans q100_50_M5
  have q100_51_M6 : id (M6 100 51 = M 100 51) := (show M6 100 51 = M5 100 51 by rw [hM6]; exact mu_ne _ _ (by first | decide | omega)).trans q100_51_M5
  have q100_52_M6 : id (M6 100 52 = M 100 52) := (show M6 100 52 = M5 100 52 by rw [hM6]; exact mu_ne _ _ (by first | decide | omega)).trans q100_52_M5
  have q103_0_M6 : id (M6 103 0 = M 103 0) := (show M6 103 0 = M5 103 0 by rw [hM6]; exact mu_ne _ _ (by first | decide | omega)).trans q103_0_M5
  have q103_1_M6 : id (M6 103 1 = M 103 1) := (show M6 103 1 = M5 103 1 by rw [hM6]; exact mu_ne _ _ (by first | decide | omega)).trans q103_1_M5
  have q97_10_M6 : (M6 97 10 = M 97 10) := (show M6 97 10 = M5 97 10 by rw [hM6]; exact mu_ne _ _ (by first | decide | omega)).trans q97_10_M5
  have q97_44_M6 : (M6 97 44 = M 97 44) := (show M6 97 44 = M5 97 44 by rw [hM6]; exact mu_ne _ _ (by first | decide | omega)).trans q97_44_M5
  have q97_12_M6 : (M6 97 12 = M 97 12) := (show M6 97 12 = M5 97 12 by rw [hM6]; exact mu_ne _ _ (by first | decide | omega)).trans q97_12_M5
  have q97_33_M6 : (M6 97 33 = M 97 33) := (show M6 97 33 = M5 97 33 by rw [hM6]; exact mu_ne _ _ (by first | decide | omega)).trans q97_33_M5
  have wM6_97_12 : M6 97 12 = M5 97 12 := by rw [hM6]; exact mu_ne _ _ (by first | decide | omega)
  have wM6_97_13 : M6 97 13 = M5 97 13 := by rw [hM6]; exact mu_ne _ _ (by first | decide | omega)
  have wM6_97_14 : M6 97 14 = M5 97 14 := by rw [hM6]; exact mu_ne _ _ (by first | decide | omega)
  have wM6_97_15 : M6 97 15 = M5 97 15 := by rw [hM6]; exact mu_ne _ _ (by first | decide | omega)
  have wM6_97_16 : M6 97 16 = M5 97 16 := by rw [hM6]; exact mu_ne _ _ (by first | decide | omega)
  have wM6_97_17 : M6 97 17 = M5 97 17 := by rw [hM6]; exact mu_ne _ _ (by first | decide | omega)
  have wM6_97_18 : M6 97 18 = M5 97 18 := by rw [hM6]; exact mu_ne _ _ (by first | decide | omega)
  have wM6_97_19 : M6 97 19 = M5 97 19 := by rw [hM6]; exact mu_ne _ _ (by first | decide | omega)
  have wM6_97_24 : M6 97 24 = M5 97 24 := by rw [hM6]; exact mu_ne _ _ (by first | decide | omega)
  have wM6_97_32 : M6 97 32 = M5 97 32 := by rw [hM6]; exact mu_ne _ _ (by first | decide | omega)
  have wM6_97_33 : M6 97 33 = M5 97 33 := by rw [hM6]; exact mu_ne _ _ (by first | decide | omega)
  have xM6_97_19 : M6 97 19 = 0 := (show M6 97 19 = M5 97 19 by rw [hM6]; exact mu_ne _ _ (by first | decide | omega)).trans xM5_97_19
  have xM6_97_21 : M6 97 21 = 0 := by rw [hM6]; exact mu_at _ _ _ _
  have c1M6 : M6 101 = M 101 := (show M6 101 = M5 101 by rw [hM6, mu_cell _ _ (by decide)]).trans c1M5
  have tkM6 : TK M6 := TK.eq tkM5 (show M6 97 12 = M5 97 12 by rw [hM6]; exact mu_ne _ _ (by first | decide | omega)) (show M6 97 13 = M5 97 13 by rw [hM6]; exact mu_ne _ _ (by first | decide | omega)) (show M6 97 14 = M5 97 14 by rw [hM6]; exact mu_ne _ _ (by first | decide | omega)) (show M6 97 15 = M5 97 15 by rw [hM6]; exact mu_ne _ _ (by first | decide | omega)) (show M6 97 16 = M5 97 16 by rw [hM6]; exact mu_ne _ _ (by first | decide | omega))
  have k98M6 : M6 98 = M 98 := (show M6 98 = M5 98 from (by rw [hM6]; exact mu_cell _ _ (by decide))).trans k98M5
  have tzM6 : TZM M6 K W S E m := TZM.eq tzM5 (by rw [hM6]; exact mu_cell _ _ (by decide)) (show M6 97 12 = M5 97 12 by rw [hM6]; exact mu_ne _ _ (by first | decide | omega))
  have atM6 : AT K W S E m M6 0 := AT.eq atM5 (by omega) (by omega) (by omega) (by omega) (by omega)
  refine g_aload_n (pc' := 20) 0 dX10_evening_19 rfl rfl ?_
  refine g_iconst (pc' := 21) dX10_evening_20 rfl ?_
  refine g_putI (pc' := 24) dX10_evening_21 rfl p_X10_218 rfl rfl (by decide) (fun M7 hM7 => ?_)
  have iM7 : IM M7 := IM.wr iM6 hM7 (by unfold okv; first | decide | omega)
  have fM7 : Fr (fun c => c = 97 ∨ c = 98 ∨ c = 101 ∨ c = 104 ∨ c = 105 ∨ c = 107 ∨ c = 108 ∨ c = 109 ∨ c = 110 ∨ c = 111 ∨ c = 112) M M7 := Fr.wr fM6 hM7 (by first | decide | omega | (dsimp only; omega))
  have q99_0_M7 : (M7 99 0 = M 99 0) := (show M7 99 0 = M6 99 0 by rw [hM7]; exact mu_ne _ _ (by first | decide | omega)).trans q99_0_M6
  have q99_1_M7 : (M7 99 1 = M 99 1) := (show M7 99 1 = M6 99 1 by rw [hM7]; exact mu_ne _ _ (by first | decide | omega)).trans q99_1_M6
  have q99_2_M7 : (M7 99 2 = M 99 2) := (show M7 99 2 = M6 99 2 by rw [hM7]; exact mu_ne _ _ (by first | decide | omega)).trans q99_2_M6
  have q99_3_M7 : (M7 99 3 = M 99 3) := (show M7 99 3 = M6 99 3 by rw [hM7]; exact mu_ne _ _ (by first | decide | omega)).trans q99_3_M6
  have q100_0_M7 : id (M7 100 0 = M 100 0) := (show M7 100 0 = M6 100 0 by rw [hM7]; exact mu_ne _ _ (by first | decide | omega)).trans q100_0_M6
  have q100_1_M7 : id (M7 100 1 = M 100 1) := (show M7 100 1 = M6 100 1 by rw [hM7]; exact mu_ne _ _ (by first | decide | omega)).trans q100_1_M6
  have q100_2_M7 : id (M7 100 2 = M 100 2) := (show M7 100 2 = M6 100 2 by rw [hM7]; exact mu_ne _ _ (by first | decide | omega)).trans q100_2_M6
  have q100_3_M7 : id (M7 100 3 = M 100 3) := (show M7 100 3 = M6 100 3 by rw [hM7]; exact mu_ne _ _ (by first | decide | omega)).trans q100_3_M6
  have q100_49_M7 : id (M7 100 49 = M 100 49) := (show M7 100 49 = M6 100 49 by rw [hM7]; exact mu_ne _ _ (by first | decide | omega)).trans q100_49_M6
  have q100_50_M7 : id (M7 100 50 = M 100 50) := (show M7 100 50 = M6 100 50 by rw [hM7]; exact mu_ne _ _ (by first | decide | omega)).trans q100_50_M6
  have q100_51_M7 : id (M7 100 51 = M 100 51) := (show M7 100 51 = M6 100 51 by rw [hM7]; exact mu_ne _ _ (by first | decide | omega)).trans q100_51_M6
  have q100_52_M7 : id (M7 100 52 = M 100 52) := (show M7 100 52 = M6 100 52 by rw [hM7]; exact mu_ne _ _ (by first | decide | omega)).trans q100_52_M6
  have q103_0_M7 : id (M7 103 0 = M 103 0) := (show M7 103 0 = M6 103 0 by rw [hM7]; exact mu_ne _ _ (by first | decide | omega)).trans q103_0_M6
  have q103_1_M7 : id (M7 103 1 = M 103 1) := (show M7 103 1 = M6 103 1 by rw [hM7]; exact mu_ne _ _ (by first | decide | omega)).trans q103_1_M6
  have q97_10_M7 : (M7 97 10 = M 97 10) := (show M7 97 10 = M6 97 10 by rw [hM7]; exact mu_ne _ _ (by first | decide | omega)).trans q97_10_M6
  have q97_44_M7 : (M7 97 44 = M 97 44) := (show M7 97 44 = M6 97 44 by rw [hM7]; exact mu_ne _ _ (by first | decide | omega)).trans q97_44_M6
  have q97_12_M7 : (M7 97 12 = M 97 12) := (show M7 97 12 = M6 97 12 by rw [hM7]; exact mu_ne _ _ (by first | decide | omega)).trans q97_12_M6
  have q97_33_M7 : (M7 97 33 = M 97 33) := (show M7 97 33 = M6 97 33 by rw [hM7]; exact mu_ne _ _ (by first | decide | omega)).trans q97_33_M6
  have wM7_97_12 : M7 97 12 = M6 97 12 := by rw [hM7]; exact mu_ne _ _ (by first | decide | omega)
  have wM7_97_13 : M7 97 13 = M6 97 13 := by rw [hM7]; exact mu_ne _ _ (by first | decide | omega)
  have wM7_97_14 : M7 97 14 = M6 97 14 := by rw [hM7]; exact mu_ne _ _ (by first | decide | omega)
  have wM7_97_15 : M7 97 15 = M6 97 15 := by rw [hM7]; exact mu_ne _ _ (by first | decide | omega)
  have wM7_97_16 : M7 97 16 = M6 97 16 := by rw [hM7]; exact mu_ne _ _ (by first | decide | omega)
  have wM7_97_17 : M7 97 17 = M6 97 17 := by rw [hM7]; exact mu_ne _ _ (by first | decide | omega)
  have wM7_97_18 : M7 97 18 = M6 97 18 := by rw [hM7]; exact mu_ne _ _ (by first | decide | omega)
  have wM7_97_19 : M7 97 19 = M6 97 19 := by rw [hM7]; exact mu_ne _ _ (by first | decide | omega)
  have wM7_97_21 : M7 97 21 = M6 97 21 := by rw [hM7]; exact mu_ne _ _ (by first | decide | omega)
  have wM7_97_32 : M7 97 32 = M6 97 32 := by rw [hM7]; exact mu_ne _ _ (by first | decide | omega)
  have wM7_97_33 : M7 97 33 = M6 97 33 := by rw [hM7]; exact mu_ne _ _ (by first | decide | omega)
  have xM7_97_19 : M7 97 19 = 0 := (show M7 97 19 = M6 97 19 by rw [hM7]; exact mu_ne _ _ (by first | decide | omega)).trans xM6_97_19
  have xM7_97_21 : M7 97 21 = 0 := (show M7 97 21 = M6 97 21 by rw [hM7]; exact mu_ne _ _ (by first | decide | omega)).trans xM6_97_21
  have xM7_97_24 : M7 97 24 = 0 := by rw [hM7]; exact mu_at _ _ _ _
  have c1M7 : M7 101 = M 101 := (show M7 101 = M6 101 by rw [hM7, mu_cell _ _ (by decide)]).trans c1M6
  have tkM7 : TK M7 := TK.eq tkM6 (show M7 97 12 = M6 97 12 by rw [hM7]; exact mu_ne _ _ (by first | decide | omega)) (show M7 97 13 = M6 97 13 by rw [hM7]; exact mu_ne _ _ (by first | decide | omega)) (show M7 97 14 = M6 97 14 by rw [hM7]; exact mu_ne _ _ (by first | decide | omega)) (show M7 97 15 = M6 97 15 by rw [hM7]; exact mu_ne _ _ (by first | decide | omega)) (show M7 97 16 = M6 97 16 by rw [hM7]; exact mu_ne _ _ (by first | decide | omega))
  have k98M7 : M7 98 = M 98 := (show M7 98 = M6 98 from (by rw [hM7]; exact mu_cell _ _ (by decide))).trans k98M6
  have tzM7 : TZM M7 K W S E m := TZM.eq tzM6 (by rw [hM7]; exact mu_cell _ _ (by decide)) (show M7 97 12 = M6 97 12 by rw [hM7]; exact mu_ne _ _ (by first | decide | omega))
  have atM7 : AT K W S E m M7 0 := AT.eq atM6 (by omega) (by omega) (by omega) (by omega) (by omega)
  refine g_aload_n (pc' := 25) 0 dX10_evening_24 rfl rfl ?_
  refine g_iconst (pc' := 26) dX10_evening_25 rfl ?_
  refine g_putI (pc' := 29) dX10_evening_26 rfl p_X10_61 rfl rfl (by decide) (fun M8 hM8 => ?_)
  have iM8 : IM M8 := IM.wr iM7 hM8 (by unfold okv; first | decide | omega)
  have fM8 : Fr (fun c => c = 97 ∨ c = 98 ∨ c = 101 ∨ c = 104 ∨ c = 105 ∨ c = 107 ∨ c = 108 ∨ c = 109 ∨ c = 110 ∨ c = 111 ∨ c = 112) M M8 := Fr.wr fM7 hM8 (by first | decide | omega | (dsimp only; omega))
  have q99_0_M8 : (M8 99 0 = M 99 0) := (show M8 99 0 = M7 99 0 by rw [hM8]; exact mu_ne _ _ (by first | decide | omega)).trans q99_0_M7
  have q99_1_M8 : (M8 99 1 = M 99 1) := (show M8 99 1 = M7 99 1 by rw [hM8]; exact mu_ne _ _ (by first | decide | omega)).trans q99_1_M7
  have q99_2_M8 : (M8 99 2 = M 99 2) := (show M8 99 2 = M7 99 2 by rw [hM8]; exact mu_ne _ _ (by first | decide | omega)).trans q99_2_M7
  have q99_3_M8 : (M8 99 3 = M 99 3) := (show M8 99 3 = M7 99 3 by rw [hM8]; exact mu_ne _ _ (by first | decide | omega)).trans q99_3_M7
  have q100_0_M8 : id (M8 100 0 = M 100 0) := (show M8 100 0 = M7 100 0 by rw [hM8]; exact mu_ne _ _ (by first | decide | omega)).trans q100_0_M7
  have q100_1_M8 : id (M8 100 1 = M 100 1) := (show M8 100 1 = M7 100 1 by rw [hM8]; exact mu_ne _ _ (by first | decide | omega)).trans q100_1_M7
  have q100_2_M8 : id (M8 100 2 = M 100 2) := (show M8 100 2 = M7 100 2 by rw [hM8]; exact mu_ne _ _ (by first | decide | omega)).trans q100_2_M7
  have q100_3_M8 : id (M8 100 3 = M 100 3) := (show M8 100 3 = M7 100 3 by rw [hM8]; exact mu_ne _ _ (by first | decide | omega)).trans q100_3_M7
  have q100_49_M8 : id (M8 100 49 = M 100 49) := (show M8 100 49 = M7 100 49 by rw [hM8]; exact mu_ne _ _ (by first | decide | omega)).trans q100_49_M7
  have q100_50_M8 : id (M8 100 50 = M 100 50) := (show M8 100 50 = M7 100 50 by rw [hM8]; exact mu_ne _ _ (by first | decide | omega)).trans q100_50_M7
  have q100_51_M8 : id (M8 100 51 = M 100 51) := (show M8 100 51 = M7 100 51 by rw [hM8]; exact mu_ne _ _ (by first | decide | omega)).trans q100_51_M7
  have q100_52_M8 : id (M8 100 52 = M 100 52) := (show M8 100 52 = M7 100 52 by rw [hM8]; exact mu_ne _ _ (by first | decide | omega)).trans q100_52_M7
  have q103_0_M8 : id (M8 103 0 = M 103 0) := (show M8 103 0 = M7 103 0 by rw [hM8]; exact mu_ne _ _ (by first | decide | omega)).trans q103_0_M7
  have q103_1_M8 : id (M8 103 1 = M 103 1) := (show M8 103 1 = M7 103 1 by rw [hM8]; exact mu_ne _ _ (by first | decide | omega)).trans q103_1_M7
  have q97_10_M8 : (M8 97 10 = M 97 10) := (show M8 97 10 = M7 97 10 by rw [hM8]; exact mu_ne _ _ (by first | decide | omega)).trans q97_10_M7
  have q97_44_M8 : (M8 97 44 = M 97 44) := (show M8 97 44 = M7 97 44 by rw [hM8]; exact mu_ne _ _ (by first | decide | omega)).trans q97_44_M7
  have q97_12_M8 : (M8 97 12 = M 97 12) := (show M8 97 12 = M7 97 12 by rw [hM8]; exact mu_ne _ _ (by first | decide | omega)).trans q97_12_M7
  have wM8_97_12 : M8 97 12 = M7 97 12 := by rw [hM8]; exact mu_ne _ _ (by first | decide | omega)
  have wM8_97_13 : M8 97 13 = M7 97 13 := by rw [hM8]; exact mu_ne _ _ (by first | decide | omega)
  have wM8_97_14 : M8 97 14 = M7 97 14 := by rw [hM8]; exact mu_ne _ _ (by first | decide | omega)
  have wM8_97_15 : M8 97 15 = M7 97 15 := by rw [hM8]; exact mu_ne _ _ (by first | decide | omega)
  have wM8_97_16 : M8 97 16 = M7 97 16 := by rw [hM8]; exact mu_ne _ _ (by first | decide | omega)
  have wM8_97_17 : M8 97 17 = M7 97 17 := by rw [hM8]; exact mu_ne _ _ (by first | decide | omega)
  have wM8_97_18 : M8 97 18 = M7 97 18 := by rw [hM8]; exact mu_ne _ _ (by first | decide | omega)
  have wM8_97_19 : M8 97 19 = M7 97 19 := by rw [hM8]; exact mu_ne _ _ (by first | decide | omega)
  have wM8_97_21 : M8 97 21 = M7 97 21 := by rw [hM8]; exact mu_ne _ _ (by first | decide | omega)
  have wM8_97_24 : M8 97 24 = M7 97 24 := by rw [hM8]; exact mu_ne _ _ (by first | decide | omega)
  have wM8_97_32 : M8 97 32 = M7 97 32 := by rw [hM8]; exact mu_ne _ _ (by first | decide | omega)
  have xM8_97_19 : M8 97 19 = 0 := (show M8 97 19 = M7 97 19 by rw [hM8]; exact mu_ne _ _ (by first | decide | omega)).trans xM7_97_19
  have xM8_97_21 : M8 97 21 = 0 := (show M8 97 21 = M7 97 21 by rw [hM8]; exact mu_ne _ _ (by first | decide | omega)).trans xM7_97_21
  have xM8_97_24 : M8 97 24 = 0 := (show M8 97 24 = M7 97 24 by rw [hM8]; exact mu_ne _ _ (by first | decide | omega)).trans xM7_97_24
  have xM8_97_33 : M8 97 33 = (-1) := by rw [hM8]; exact mu_at _ _ _ _
  have c1M8 : M8 101 = M 101 := (show M8 101 = M7 101 by rw [hM8, mu_cell _ _ (by decide)]).trans c1M7
  have tkM8 : TK M8 := TK.eq tkM7 (show M8 97 12 = M7 97 12 by rw [hM8]; exact mu_ne _ _ (by first | decide | omega)) (show M8 97 13 = M7 97 13 by rw [hM8]; exact mu_ne _ _ (by first | decide | omega)) (show M8 97 14 = M7 97 14 by rw [hM8]; exact mu_ne _ _ (by first | decide | omega)) (show M8 97 15 = M7 97 15 by rw [hM8]; exact mu_ne _ _ (by first | decide | omega)) (show M8 97 16 = M7 97 16 by rw [hM8]; exact mu_ne _ _ (by first | decide | omega))
  have k98M8 : M8 98 = M 98 := (show M8 98 = M7 98 from (by rw [hM8]; exact mu_cell _ _ (by decide))).trans k98M7
  have tzM8 : TZM M8 K W S E m := TZM.eq tzM7 (by rw [hM8]; exact mu_cell _ _ (by decide)) (show M8 97 12 = M7 97 12 by rw [hM8]; exact mu_ne _ _ (by first | decide | omega))
  have atM8 : AT K W S E m M8 0 := AT.eq atM7 (by omega) (by omega) (by omega) (by omega) (by omega)
  refine g_aload_n (pc' := 30) 0 dX10_evening_29 rfl rfl ?_
  refine g_callVv (pc' := 33) (As := []) (b := 97) (S := []) dX10_evening_30 rfl m_X10_325 w_X10_readClause (c_X10_readClause_z X M8 iM8 tkM8 (by omega) (by omega) (by omega) (CLS.zero (by omega)) K W S E m 0 0 tzM8 atM8 (by omega)) rfl ⟨_, _, _, rfl, rfl, rfl⟩ (by decide) (by decide) rfl (Nat.le_of_ble_eq_true rfl) (fun M10 q9 => ?_)
  obtain ⟨iM10, fM100, eM10_97_12, eM10_97_10, eM10_97_44, eM10_97_33, pM10⟩ := q9
  have fM10 : Fr (fun c => c = 97 ∨ c = 98 ∨ c = 101 ∨ c = 104 ∨ c = 105 ∨ c = 107 ∨ c = 108 ∨ c = 109 ∨ c = 110 ∨ c = 111 ∨ c = 112) M M10 := Fr.tr fM8 fM100 fi_57
  have q99_0_M10 : (M10 99 0 = M 99 0) := (congrFun (fM100 99 (by first | decide | omega | (dsimp only; omega))) 0).trans q99_0_M8
  have q99_1_M10 : (M10 99 1 = M 99 1) := (congrFun (fM100 99 (by first | decide | omega | (dsimp only; omega))) 1).trans q99_1_M8
  have q99_2_M10 : (M10 99 2 = M 99 2) := (congrFun (fM100 99 (by first | decide | omega | (dsimp only; omega))) 2).trans q99_2_M8
  have q99_3_M10 : (M10 99 3 = M 99 3) := (congrFun (fM100 99 (by first | decide | omega | (dsimp only; omega))) 3).trans q99_3_M8
  have q100_0_M10 : id (M10 100 0 = M 100 0) := (congrFun (fM100 100 (by first | decide | omega | (dsimp only; omega))) 0).trans q100_0_M8
  have q100_1_M10 : id (M10 100 1 = M 100 1) := (congrFun (fM100 100 (by first | decide | omega | (dsimp only; omega))) 1).trans q100_1_M8
  have q100_2_M10 : id (M10 100 2 = M 100 2) := (congrFun (fM100 100 (by first | decide | omega | (dsimp only; omega))) 2).trans q100_2_M8
  have q100_3_M10 : id (M10 100 3 = M 100 3) := (congrFun (fM100 100 (by first | decide | omega | (dsimp only; omega))) 3).trans q100_3_M8
  have q100_49_M10 : id (M10 100 49 = M 100 49) := (congrFun (fM100 100 (by first | decide | omega | (dsimp only; omega))) 49).trans q100_49_M8
  have q100_50_M10 : id (M10 100 50 = M 100 50) := (congrFun (fM100 100 (by first | decide | omega | (dsimp only; omega))) 50).trans q100_50_M8
  have q100_51_M10 : id (M10 100 51 = M 100 51) := (congrFun (fM100 100 (by first | decide | omega | (dsimp only; omega))) 51).trans q100_51_M8
  have q100_52_M10 : id (M10 100 52 = M 100 52) := (congrFun (fM100 100 (by first | decide | omega | (dsimp only; omega))) 52).trans q100_52_M8
  have q103_0_M10 : id (M10 103 0 = M 103 0) := (congrFun (fM100 103 (by first | decide | omega | (dsimp only; omega))) 0).trans q103_0_M8
  have q103_1_M10 : id (M10 103 1 = M 103 1) := (congrFun (fM100 103 (by first | decide | omega | (dsimp only; omega))) 1).trans q103_1_M8
  have q97_10_M10 : (M10 97 10 = M 97 10) := eM10_97_10.trans q97_10_M8
  have q97_44_M10 : (M10 97 44 = M 97 44) := eM10_97_44.trans q97_44_M8
  have q97_12_M10 : (M10 97 12 = M 97 12) := eM10_97_12.trans q97_12_M8
  have wM10_97_12 : M10 97 12 = M8 97 12 := eM10_97_12
  have wM10_97_33 : M10 97 33 = M8 97 33 := eM10_97_33
  have xM10_97_33 : M10 97 33 = (-1) := eM10_97_33.trans xM8_97_33
  have tzM10 : TZM M10 K W S E m := TZM.eq tzM8 (fM100 106 (by decide)) eM10_97_12
  have c1M10 : M10 101 = M 101 := (fM100 101 (by decide)).trans c1M8
  obtain ⟨cqM10, tkM10, naM10, nbM10, ncM10, cbM10, zcM10⟩ := pM10
  have tbM10 := tkM10.b
  have k98M10 : M10 98 = M 98 := (fM100 98 (by decide)).trans k98M8
  refine g_sub [0] rfl ?_
  exact l_X10_evening_z_33 X M hi K W S E m hz _ M10 iM10 fM10 q99_0_M10 q99_1_M10 q99_2_M10 q99_3_M10 q100_0_M10 q100_1_M10 q100_2_M10 q100_3_M10 q100_49_M10 q100_50_M10 q100_51_M10 q100_52_M10 q103_0_M10 q103_1_M10 q97_10_M10 q97_44_M10 k98M10 (by omega) tkM10 (by omega) tzM10 cbM10 (by omega) c1M10 (M8 97 19) 0 0 (by omega) cqM10 (by rw [show (12 - M8 97 19).toNat = 12 by omega]) (by rw [show (M8 97 19).toNat = 0 by omega]; rfl) (by rw [show (M8 97 19).toNat = 0 by omega]; exact fun k hk => absurd hk (by omega)) (fun z => TXM.rd (by rw [show (M8 97 19).toNat = 0 by omega]; exact TXM.zero K W _) ⟨by omega, rfl⟩ (by rw [show (M8 97 19).toNat = 0 by omega]; exact zcM10 z)) rfl
