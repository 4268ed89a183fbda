set_option maxHeartbeats 4000000 in
set_option maxRecDepth 100000 in
theorem l_X10_evening_x_121 (X : Cx) (M : Mm) (hi : IM M) (K W S E : Nat → Int) (m : Nat) (hz : TZM M K W S E m) (n111 : Nat) (ihO : ∀ mO : Nat, mO < n111 → ∀ (ci : Int) (M1 : Mm) (ic1 : IM M1) (fr1 : Fr (fun c => c = 97 ∨ c = 98 ∨ c = 101 ∨ c = 104 ∨ c = 105 ∨ c = 107 ∨ c = 108 ∨ c = 109 ∨ c = 110 ∨ c = 111 ∨ c = 112) M M1) (q99_0 : (M1 99 0 = M 99 0)) (q99_1 : (M1 99 1 = M 99 1)) (q99_2 : (M1 99 2 = M 99 2)) (q99_3 : (M1 99 3 = M 99 3)) (q100_0 : id (M1 100 0 = M 100 0)) (q100_1 : id (M1 100 1 = M 100 1)) (q100_2 : id (M1 100 2 = M 100 2)) (q100_3 : id (M1 100 3 = M 100 3)) (q100_49 : id (M1 100 49 = M 100 49)) (q100_50 : id (M1 100 50 = M 100 50)) (q100_51 : id (M1 100 51 = M 100 51)) (q100_52 : id (M1 100 52 = M 100 52)) (q103_0 : id (M1 103 0 = M 103 0)) (q103_1 : id (M1 103 1 = M 103 1)) (q97_10 : (M1 97 10 = M 97 10)) (q97_44 : (M1 97 44 = M 97 44)) (cls1 : CLS M1) (kn1 : ∀ j : Nat, j < 25 → M1 104 (25 + j) = M 101 j) (tz : M1 97 12 = 0) (n1 : 0 ≤ M1 97 19 ∧ M1 97 19 ≤ 12) (v17 : Int) (e17 : M1 97 17 = v17) (ev : EVQ S (tXf K W 12 0 0) v17) (hd1 : 0 ≤ M1 97 32 ∧ M1 97 32 ≤ 20 * ci) (hk : 0 ≤ ci ∧ ci ≤ M1 97 19), (M1 97 19 - ci).toNat = mO → G X 12 RX10 cX10_evening 4 (some .int) (Qi (fun r M1 => IM M1 ∧ Fr (fun c => c = 97 ∨ c = 98 ∨ c = 101 ∨ c = 104 ∨ c = 105 ∨ c = 107 ∨ c = 108 ∨ c = 109 ∨ c = 110 ∨ c = 111 ∨ c = 112) M M1 ∧ M1 99 0 = M 99 0 ∧ M1 99 1 = M 99 1 ∧ M1 99 2 = M 99 2 ∧ M1 99 3 = M 99 3 ∧ M1 100 0 = M 100 0 ∧ M1 100 1 = M 100 1 ∧ M1 100 2 = M 100 2 ∧ M1 100 3 = M 100 3 ∧ M1 100 49 = M 100 49 ∧ M1 100 50 = M 100 50 ∧ M1 100 51 = M 100 51 ∧ M1 100 52 = M 100 52 ∧ M1 103 0 = M 103 0 ∧ M1 103 1 = M 103 1 ∧ M1 97 10 = M 97 10 ∧ M1 97 44 = M 97 44 ∧ ((inI r ∧ M1 97 12 = 0) ∧ EVQ S (tXf K W 12 0 0) (M1 97 17)))) 111 [(1, vi ci), (0, vr X 97)] [] M1) : ∀ (kk : Nat) (ci : Int) (t : Int) (M1 : Mm) (ic1 : IM M1) (fr1 : Fr (fun c => c = 97 ∨ c = 98 ∨ c = 101 ∨ c = 104 ∨ c = 105 ∨ c = 107 ∨ c = 108 ∨ c = 109 ∨ c = 110 ∨ c = 111 ∨ c = 112) M M1) (q99_0 : (M1 99 0 = M 99 0)) (q99_1 : (M1 99 1 = M 99 1)) (q99_2 : (M1 99 2 = M 99 2)) (q99_3 : (M1 99 3 = M 99 3)) (q100_0 : id (M1 100 0 = M 100 0)) (q100_1 : id (M1 100 1 = M 100 1)) (q100_2 : id (M1 100 2 = M 100 2)) (q100_3 : id (M1 100 3 = M 100 3)) (q100_49 : id (M1 100 49 = M 100 49)) (q100_50 : id (M1 100 50 = M 100 50)) (q100_51 : id (M1 100 51 = M 100 51)) (q100_52 : id (M1 100 52 = M 100 52)) (q103_0 : id (M1 103 0 = M 103 0)) (q103_1 : id (M1 103 1 = M 103 1)) (q97_10 : (M1 97 10 = M 97 10)) (q97_44 : (M1 97 44 = M 97 44)) (cls1 : CLS M1) (kn1 : ∀ j : Nat, j < 25 → M1 104 (25 + j) = M 101 j) (tz : M1 97 12 = 0) (n1 : 0 ≤ M1 97 19 ∧ M1 97 19 ≤ 12) (v17 : Int) (e17 : M1 97 17 = v17) (ev : EVQ S (tXf K W 12 0 0) v17) (hd1 : 0 ≤ M1 97 32 ∧ M1 97 32 ≤ 20 * ci + t) (hk : 0 ≤ ci ∧ ci < M1 97 19) (ht : 0 ≤ t ∧ t ≤ 20) (hO : (M1 97 19 - ci).toNat = n111), (20 - t).toNat = kk → G X 12 RX10 cX10_evening 4 (some .int) (Qi (fun r M1 => IM M1 ∧ Fr (fun c => c = 97 ∨ c = 98 ∨ c = 101 ∨ c = 104 ∨ c = 105 ∨ c = 107 ∨ c = 108 ∨ c = 109 ∨ c = 110 ∨ c = 111 ∨ c = 112) M M1 ∧ M1 99 0 = M 99 0 ∧ M1 99 1 = M 99 1 ∧ M1 99 2 = M 99 2 ∧ M1 99 3 = M 99 3 ∧ M1 100 0 = M 100 0 ∧ M1 100 1 = M 100 1 ∧ M1 100 2 = M 100 2 ∧ M1 100 3 = M 100 3 ∧ M1 100 49 = M 100 49 ∧ M1 100 50 = M 100 50 ∧ M1 100 51 = M 100 51 ∧ M1 100 52 = M 100 52 ∧ M1 103 0 = M 103 0 ∧ M1 103 1 = M 103 1 ∧ M1 97 10 = M 97 10 ∧ M1 97 44 = M 97 44 ∧ ((inI r ∧ M1 97 12 = 0) ∧ EVQ S (tXf K W 12 0 0) (M1 97 17)))) 121 [(1, vi ci), (2, vi t), (0, vr X 97)] [] M1 := by
  intro kk
  induction kk using Nat.strongRecOn with
  | ind kk ih =>
    intro ci t M1 ic1 fr1 q99_0 q99_1 q99_2 q99_3 q100_0 q100_1 q100_2 q100_3 q100_49 q100_50 q100_51 q100_52 q103_0 q103_1 q97_10 q97_44 cls1 kn1 tz n1 v17 e17 ev hd1 hk ht hO hmes
    have p0 := hi.1.1
    have p1 := hi.1.2.1
    have p2 := hi.1.2.2.1
    have p3 := hi.1.2.2.2.1
    have p12 := hi.2.2.2.1
    refine g_iload_n (pc' := 122) 1 dX10_evening_121 rfl rfl ?_
    refine g_aload_n (pc' := 123) 2 dX10_evening_122 rfl rfl ?_
    refine g_getR (pc' := 126) dX10_evening_123 rfl f_X10_43 rfl rfl ?_
    refine g_bipush (pc' := 128) (v := 8) dX10_evening_126 rfl (by decide) ?_
    refine g_iload_n (pc' := 129) 0 dX10_evening_128 rfl rfl ?_
    refine g_imul (pc' := 130) dX10_evening_129 rfl ?_
    refine g_bipush (pc' := 132) (v := 7) dX10_evening_130 rfl (by decide) ?_
    refine g_iadd (pc' := 133) dX10_evening_132 rfl ?_
    refine g_iald (pc' := 134) dX10_evening_133 rfl rfl (by omega) (by omega) (fun v2 ev2 rv2 => ?_)
    have gv2 : 0 ≤ v2 ∧ v2 ≤ 20 := by rw [ev2]; exact (cls1 ci (by omega) (by omega)).2.2.2.1
    refine g_ic_ge (pc' := 137) (tgt := 173) ⟨by omega, by omega⟩ rv2 dX10_evening_134 rfl rfl (fun c3 => ?_) (fun c3 => ?_)
    · refine g_iinc (pc' := 176) (L' := [(1, vi (ci + 1)), (2, vi t), (0, vr X 97)]) 0 dX10_evening_173 rfl rfl (by decide) rfl ?_
      refine g_goto (tgt := 111) dX10_evening_176 rfl ?_
      refine g_sub [0, 2] rfl ?_
      exact ihO _ (by omega) (ci + 1) M1 ic1 fr1 q99_0 q99_1 q99_2 q99_3 q100_0 q100_1 q100_2 q100_3 q100_49 q100_50 q100_51 q100_52 q103_0 q103_1 q97_10 q97_44 cls1 kn1 (by omega) (by omega) v17 (by omega) ev (by omega) (by omega) rfl
    · refine g_aload_n (pc' := 138) 2 dX10_evening_137 rfl rfl ?_
      refine g_bipush (pc' := 140) (v := 8) dX10_evening_138 rfl (by decide) ?_
      refine g_iload_n (pc' := 141) 0 dX10_evening_140 rfl rfl ?_
      refine g_imul (pc' := 142) dX10_evening_141 rfl ?_
      refine g_callVi (pc' := 145) (As := [vi (8 * ci)]) (b := 97) (S := []) dX10_evening_142 rfl m_X10_328 w_X10_move (c_X10_move X M1 ic1 (8 * ci) ⟨by omega, by omega⟩ (by omega) (cls1 ci (by omega) (by omega)) (by omega)) rfl ⟨_, _, _, rfl, rfl, rfl⟩ (by decide) (by decide) rfl (Nat.le_of_ble_eq_true rfl) (fun z5 M6 q4 => ?_)
      obtain ⟨iM6, fM60, eM6_97_12, eM6_97_19, eM6_97_21, eM6_97_17, eM6_97_33, eM6_97_10, eM6_97_44, pM6⟩ := q4
      have fM6 : Fr (fun c => c = 97 ∨ c = 98 ∨ c = 101 ∨ c = 104 ∨ c = 105 ∨ c = 107 ∨ c = 108 ∨ c = 109 ∨ c = 110 ∨ c = 111 ∨ c = 112) M M6 := Fr.tr fr1 fM60 fi_54
      have q99_0_M6 : (M6 99 0 = M 99 0) := (congrFun (fM60 99 (by first | decide | omega | (dsimp only; omega))) 0).trans q99_0
      have q99_1_M6 : (M6 99 1 = M 99 1) := (congrFun (fM60 99 (by first | decide | omega | (dsimp only; omega))) 1).trans q99_1
      have q99_2_M6 : (M6 99 2 = M 99 2) := (congrFun (fM60 99 (by first | decide | omega | (dsimp only; omega))) 2).trans q99_2
      have q99_3_M6 : (M6 99 3 = M 99 3) := (congrFun (fM60 99 (by first | decide | omega | (dsimp only; omega))) 3).trans q99_3
      have q100_0_M6 : id (M6 100 0 = M 100 0) := (congrFun (fM60 100 (by first | decide | omega | (dsimp only; omega))) 0).trans q100_0
      have q100_1_M6 : id (M6 100 1 = M 100 1) := (congrFun (fM60 100 (by first | decide | omega | (dsimp only; omega))) 1).trans q100_1
      have q100_2_M6 : id (M6 100 2 = M 100 2) := (congrFun (fM60 100 (by first | decide | omega | (dsimp only; omega))) 2).trans q100_2
      have q100_3_M6 : id (M6 100 3 = M 100 3) := (congrFun (fM60 100 (by first | decide | omega | (dsimp only; omega))) 3).trans q100_3
      have q100_49_M6 : id (M6 100 49 = M 100 49) := (congrFun (fM60 100 (by first | decide | omega | (dsimp only; omega))) 49).trans q100_49
      have q100_50_M6 : id (M6 100 50 = M 100 50) := (congrFun (fM60 100 (by first | decide | omega | (dsimp only; omega))) 50).trans q100_50
      have q100_51_M6 : id (M6 100 51 = M 100 51) := (congrFun (fM60 100 (by first | decide | omega | (dsimp only; omega))) 51).trans q100_51
      have q100_52_M6 : id (M6 100 52 = M 100 52) := (congrFun (fM60 100 (by first | decide | omega | (dsimp only; omega))) 52).trans q100_52
      have q103_0_M6 : id (M6 103 0 = M 103 0) := (congrFun (fM60 103 (by first | decide | omega | (dsimp only; omega))) 0).trans q103_0
      have q103_1_M6 : id (M6 103 1 = M 103 1) := (congrFun (fM60 103 (by first | decide | omega | (dsimp only; omega))) 1).trans q103_1
      have q97_10_M6 : (M6 97 10 = M 97 10) := eM6_97_10.trans q97_10
      have q97_44_M6 : (M6 97 44 = M 97 44) := eM6_97_44.trans q97_44
      have wM6_97_12 : M6 97 12 = M1 97 12 := eM6_97_12
      have wM6_97_17 : M6 97 17 = M1 97 17 := eM6_97_17
      have wM6_97_19 : M6 97 19 = M1 97 19 := eM6_97_19
      have wM6_97_21 : M6 97 21 = M1 97 21 := eM6_97_21
      obtain ⟨mrM6, mdM6, kqM6⟩ := pM6
      have knM6 : ∀ j : Nat, j < 25 → M6 104 (25 + j) = M 101 j := fun j hj => (kqM6 (25 + j) (by omega)).trans (kn1 j hj)
      have clsM6 : CLS M6 := CLS.nx cls1 (fM60 107 (by decide)) (fM60 108 (by decide)) (fM60 109 (by decide)) (by omega) (by omega)
      refine g_istore_n (pc' := 146) (i := 3) (L' := [(3, vi z5), (1, vi ci), (2, vi t), (0, vr X 97)]) dX10_evening_145 rfl rfl (by decide) rfl ?_
      refine g_iload_n (pc' := 147) 0 dX10_evening_146 rfl rfl ?_
      refine g_if_ge (pc' := 150) (tgt := 167) ⟨by omega, by omega⟩ dX10_evening_147 rfl rfl (fun c7 => ?_) (fun c7 => ?_)
      · refine g_iinc (pc' := 170) (L' := [(2, vi (t + 1)), (3, vi z5), (1, vi ci), (0, vr X 97)]) 2 dX10_evening_167 rfl rfl (by decide) rfl ?_
        refine g_goto (tgt := 121) dX10_evening_170 rfl ?_
        refine g_sub [2, 0, 3] rfl ?_
        exact ih _ (by omega) ci (t + 1) M6 iM6 fM6 q99_0_M6 q99_1_M6 q99_2_M6 q99_3_M6 q100_0_M6 q100_1_M6 q100_2_M6 q100_3_M6 q100_49_M6 q100_50_M6 q100_51_M6 q100_52_M6 q103_0_M6 q103_1_M6 q97_10_M6 q97_44_M6 clsM6 knM6 (by omega) (by omega) v17 (by omega) ev (by omega) (by omega) (by omega) (by omega) rfl
      · refine g_aload_n (pc' := 151) 3 dX10_evening_150 rfl rfl ?_
        refine g_bipush (pc' := 153) (v := 25) dX10_evening_151 rfl (by decide) ?_
        refine g_callVv (pc' := 156) (As := [vi 25]) (b := 97) (S := []) dX10_evening_153 rfl m_X10_132 w_X10_putBack (c_X10_putBack X M6 25 (by decide) ⟨by omega, by omega⟩) rfl ⟨_, _, _, rfl, rfl, rfl⟩ (by decide) (by decide) rfl (Nat.le_of_ble_eq_true rfl) (fun M9 q8 => ?_)
        obtain ⟨fbM9, pbM9⟩ := q8
        have iM9 : IM M9 := IM.parts iM6 fbM9 (fun c z => by omega) (PIw.cg hi.2.1 (fun j hj => (pbM9 j hj).trans (knM6 j hj)))
        have q99_0_M9 : M9 99 0 = M 99 0 := (congrFun (fbM9 99 (by omega)) 0).trans q99_0_M6
        have q99_1_M9 : M9 99 1 = M 99 1 := (congrFun (fbM9 99 (by omega)) 1).trans q99_1_M6
        have q99_2_M9 : M9 99 2 = M 99 2 := (congrFun (fbM9 99 (by omega)) 2).trans q99_2_M6
        have q99_3_M9 : M9 99 3 = M 99 3 := (congrFun (fbM9 99 (by omega)) 3).trans q99_3_M6
        have q100_0_M9 : M9 100 0 = M 100 0 := (congrFun (fbM9 100 (by omega)) 0).trans q100_0_M6
        have q100_1_M9 : M9 100 1 = M 100 1 := (congrFun (fbM9 100 (by omega)) 1).trans q100_1_M6
        have q100_2_M9 : M9 100 2 = M 100 2 := (congrFun (fbM9 100 (by omega)) 2).trans q100_2_M6
        have q100_3_M9 : M9 100 3 = M 100 3 := (congrFun (fbM9 100 (by omega)) 3).trans q100_3_M6
        have q100_49_M9 : M9 100 49 = M 100 49 := (congrFun (fbM9 100 (by omega)) 49).trans q100_49_M6
        have q100_50_M9 : M9 100 50 = M 100 50 := (congrFun (fbM9 100 (by omega)) 50).trans q100_50_M6
        have q100_51_M9 : M9 100 51 = M 100 51 := (congrFun (fbM9 100 (by omega)) 51).trans q100_51_M6
        have q100_52_M9 : M9 100 52 = M 100 52 := (congrFun (fbM9 100 (by omega)) 52).trans q100_52_M6
        have q103_0_M9 : M9 103 0 = M 103 0 := (congrFun (fbM9 103 (by omega)) 0).trans q103_0_M6
        have q103_1_M9 : M9 103 1 = M 103 1 := (congrFun (fbM9 103 (by omega)) 1).trans q103_1_M6
        have q97_10_M9 : M9 97 10 = M 97 10 := (congrFun (fbM9 97 (by omega)) 10).trans q97_10_M6
        have q97_44_M9 : M9 97 44 = M 97 44 := (congrFun (fbM9 97 (by omega)) 44).trans q97_44_M6
        have fM9 : Fr (fun c => c = 97 ∨ c = 98 ∨ c = 101 ∨ c = 104 ∨ c = 105 ∨ c = 107 ∨ c = 108 ∨ c = 109 ∨ c = 110 ∨ c = 111 ∨ c = 112) M M9 := Fr.tr fM6 fbM9 (fun c z => by omega)
        have wM9_97_12 := congrFun (fbM9 97 (by omega)) 12
        have wM9_97_13 := congrFun (fbM9 97 (by omega)) 13
        have wM9_97_14 := congrFun (fbM9 97 (by omega)) 14
        have wM9_97_15 := congrFun (fbM9 97 (by omega)) 15
        have wM9_97_16 := congrFun (fbM9 97 (by omega)) 16
        have wM9_97_17 := congrFun (fbM9 97 (by omega)) 17
        have wM9_97_18 := congrFun (fbM9 97 (by omega)) 18
        have wM9_97_19 := congrFun (fbM9 97 (by omega)) 19
        have wM9_97_21 := congrFun (fbM9 97 (by omega)) 21
        have wM9_97_24 := congrFun (fbM9 97 (by omega)) 24
        have wM9_97_32 := congrFun (fbM9 97 (by omega)) 32
        refine g_aload_n (pc' := 157) 3 dX10_evening_156 rfl rfl ?_
        refine g_iload_n (pc' := 158) 1 dX10_evening_157 rfl rfl ?_
        refine g_putI (pc' := 161) dX10_evening_158 rfl p_X10_61 rfl rfl ⟨by omega, by omega⟩ (fun M10 hM10 => ?_)
        have iM10 : IM M10 := IM.wr iM9 hM10 (by unfold okv; first | decide | omega)
        have fM10 : Fr (fun c => c = 97 ∨ c = 98 ∨ c = 101 ∨ c = 104 ∨ c = 105 ∨ c = 107 ∨ c = 108 ∨ c = 109 ∨ c = 110 ∨ c = 111 ∨ c = 112) M M10 := Fr.wr fM9 hM10 (by first | decide | omega | (dsimp only; omega))
        have q99_0_M10 : (M10 99 0 = M 99 0) := (show M10 99 0 = M9 99 0 by rw [hM10]; exact mu_ne _ _ (by first | decide | omega)).trans q99_0_M9
        have q99_1_M10 : (M10 99 1 = M 99 1) := (show M10 99 1 = M9 99 1 by rw [hM10]; exact mu_ne _ _ (by first | decide | omega)).trans q99_1_M9
        have q99_2_M10 : (M10 99 2 = M 99 2) := (show M10 99 2 = M9 99 2 by rw [hM10]; exact mu_ne _ _ (by first | decide | omega)).trans q99_2_M9
        have q99_3_M10 : (M10 99 3 = M 99 3) := (show M10 99 3 = M9 99 3 by rw [hM10]; exact mu_ne _ _ (by first | decide | omega)).trans q99_3_M9
        have q100_0_M10 : id (M10 100 0 = M 100 0) := (show M10 100 0 = M9 100 0 by rw [hM10]; exact mu_ne _ _ (by first | decide | omega)).trans q100_0_M9
        have q100_1_M10 : id (M10 100 1 = M 100 1) := (show M10 100 1 = M9 100 1 by rw [hM10]; exact mu_ne _ _ (by first | decide | omega)).trans q100_1_M9
        have q100_2_M10 : id (M10 100 2 = M 100 2) := (show M10 100 2 = M9 100 2 by rw [hM10]; exact mu_ne _ _ (by first | decide | omega)).trans q100_2_M9
        have q100_3_M10 : id (M10 100 3 = M 100 3) := (show M10 100 3 = M9 100 3 by rw [hM10]; exact mu_ne _ _ (by first | decide | omega)).trans q100_3_M9
        have q100_49_M10 : id (M10 100 49 = M 100 49) := (show M10 100 49 = M9 100 49 by rw [hM10]; exact mu_ne _ _ (by first | decide | omega)).trans q100_49_M9
        have q100_50_M10 : id (M10 100 50 = M 100 50) := (show M10 100 50 = M9 100 50 by rw [hM10]; exact mu_ne _ _ (by first | decide | omega)).trans q100_50_M9
        have q100_51_M10 : id (M10 100 51 = M 100 51) := (show M10 100 51 = M9 100 51 by rw [hM10]; exact mu_ne _ _ (by first | decide | omega)).trans q100_51_M9
        have q100_52_M10 : id (M10 100 52 = M 100 52) := (show M10 100 52 = M9 100 52 by rw [hM10]; exact mu_ne _ _ (by first | decide | omega)).trans q100_52_M9
        have q103_0_M10 : id (M10 103 0 = M 103 0) := (show M10 103 0 = M9 103 0 by rw [hM10]; exact mu_ne _ _ (by first | decide | omega)).trans q103_0_M9
        have q103_1_M10 : id (M10 103 1 = M 103 1) := (show M10 103 1 = M9 103 1 by rw [hM10]; exact mu_ne _ _ (by first | decide | omega)).trans q103_1_M9
        have q97_10_M10 : (M10 97 10 = M 97 10) := (show M10 97 10 = M9 97 10 by rw [hM10]; exact mu_ne _ _ (by first | decide | omega)).trans q97_10_M9
        have q97_44_M10 : (M10 97 44 = M 97 44) := (show M10 97 44 = M9 97 44 by rw [hM10]; exact mu_ne _ _ (by first | decide | omega)).trans q97_44_M9
        have wM10_97_12 : M10 97 12 = M9 97 12 := by rw [hM10]; exact mu_ne _ _ (by first | decide | omega)
        have wM10_97_13 : M10 97 13 = M9 97 13 := by rw [hM10]; exact mu_ne _ _ (by first | decide | omega)
        have wM10_97_14 : M10 97 14 = M9 97 14 := by rw [hM10]; exact mu_ne _ _ (by first | decide | omega)
        have wM10_97_15 : M10 97 15 = M9 97 15 := by rw [hM10]; exact mu_ne _ _ (by first | decide | omega)
        have wM10_97_16 : M10 97 16 = M9 97 16 := by rw [hM10]; exact mu_ne _ _ (by first | decide | omega)
        have wM10_97_17 : M10 97 17 = M9 97 17 := by rw [hM10]; exact mu_ne _ _ (by first | decide | omega)
        have wM10_97_18 : M10 97 18 = M9 97 18 := by rw [hM10]; exact mu_ne _ _ (by first | decide | omega)
        have wM10_97_19 : M10 97 19 = M9 97 19 := by rw [hM10]; exact mu_ne _ _ (by first | decide | omega)
        have wM10_97_21 : M10 97 21 = M9 97 21 := by rw [hM10]; exact mu_ne _ _ (by first | decide | omega)
        have wM10_97_24 : M10 97 24 = M9 97 24 := by rw [hM10]; exact mu_ne _ _ (by first | decide | omega)
        have wM10_97_32 : M10 97 32 = M9 97 32 := by rw [hM10]; exact mu_ne _ _ (by first | decide | omega)
        have xM10_97_33 : M10 97 33 = ci := by rw [hM10]; exact mu_at _ _ _ _
        refine g_aload_n (pc' := 162) 3 dX10_evening_161 rfl rfl ?_
        refine g_iload_n (pc' := 163) 0 dX10_evening_162 rfl rfl ?_
        refine g_callVi (pc' := 166) (As := [vi z5]) (b := 97) (S := []) dX10_evening_163 rfl m_X10_87 w_X10_tell (c_X10_tell X M10 iM10 z5 ⟨by omega, by omega⟩ (by omega)) rfl ⟨_, _, _, rfl, rfl, rfl⟩ (by decide) (by decide) rfl (Nat.le_of_ble_eq_true rfl) (fun z12 M13 q11 => ?_)
        obtain ⟨iM13, fM130, eM13_99_0, eM13_99_1, eM13_99_2, eM13_99_3, eM13_100_0, eM13_100_1, eM13_100_2, eM13_100_3, eM13_100_49, eM13_100_50, eM13_100_51, eM13_100_52, eM13_103_0, eM13_103_1, eM13_97_12, eM13_97_17, eM13_97_33, eM13_97_10, eM13_97_44, pM13⟩ := q11
        have fM13 : Fr (fun c => c = 97 ∨ c = 98 ∨ c = 101 ∨ c = 104 ∨ c = 105 ∨ c = 107 ∨ c = 108 ∨ c = 109 ∨ c = 110 ∨ c = 111 ∨ c = 112) M M13 := Fr.tr fM10 fM130 fi_55
        have q99_0_M13 : (M13 99 0 = M 99 0) := eM13_99_0.trans q99_0_M10
        have q99_1_M13 : (M13 99 1 = M 99 1) := eM13_99_1.trans q99_1_M10
        have q99_2_M13 : (M13 99 2 = M 99 2) := eM13_99_2.trans q99_2_M10
        have q99_3_M13 : (M13 99 3 = M 99 3) := eM13_99_3.trans q99_3_M10
        have q100_0_M13 : id (M13 100 0 = M 100 0) := eM13_100_0.trans q100_0_M10
        have q100_1_M13 : id (M13 100 1 = M 100 1) := eM13_100_1.trans q100_1_M10
        have q100_2_M13 : id (M13 100 2 = M 100 2) := eM13_100_2.trans q100_2_M10
        have q100_3_M13 : id (M13 100 3 = M 100 3) := eM13_100_3.trans q100_3_M10
        have q100_49_M13 : id (M13 100 49 = M 100 49) := eM13_100_49.trans q100_49_M10
        have q100_50_M13 : id (M13 100 50 = M 100 50) := eM13_100_50.trans q100_50_M10
        have q100_51_M13 : id (M13 100 51 = M 100 51) := eM13_100_51.trans q100_51_M10
        have q100_52_M13 : id (M13 100 52 = M 100 52) := eM13_100_52.trans q100_52_M10
        have q103_0_M13 : id (M13 103 0 = M 103 0) := eM13_103_0.trans q103_0_M10
        have q103_1_M13 : id (M13 103 1 = M 103 1) := eM13_103_1.trans q103_1_M10
        have q97_10_M13 : (M13 97 10 = M 97 10) := eM13_97_10.trans q97_10_M10
        have q97_44_M13 : (M13 97 44 = M 97 44) := eM13_97_44.trans q97_44_M10
        have wM13_97_12 : M13 97 12 = M10 97 12 := eM13_97_12
        have wM13_97_17 : M13 97 17 = M10 97 17 := eM13_97_17
        have xM13_97_33 : M13 97 33 = ci := eM13_97_33.trans xM10_97_33
        clear eM13_100_0 eM13_100_1 eM13_100_2 eM13_100_3 eM13_100_49 eM13_100_50 eM13_100_51 eM13_100_52 eM13_103_0 eM13_103_1
        refine g_ireturn dX10_evening_166 ?_
        exact ⟨iM13, fM13, q99_0_M13, q99_1_M13, q99_2_M13, q99_3_M13, q100_0_M13, q100_1_M13, q100_2_M13, q100_3_M13, q100_49_M13, q100_50_M13, q100_51_M13, q100_52_M13, q103_0_M13, q103_1_M13, q97_10_M13, q97_44_M13, by omega, by rw [show M13 97 17 = v17 by omega]; exact ev⟩
set_option maxHeartbeats 4000000 in
set_option maxRecDepth 100000 in
theorem l_X10_evening_x_111 (X : Cx) (M : Mm) (hi : IM M) (K W S E : Nat → Int) (m : Nat) (hz : TZM M K W S E m) : ∀ (kk : Nat) (ci : Int) (M1 : Mm) (ic1 : IM M1) (fr1 : Fr (fun c => c = 97 ∨ c = 98 ∨ c = 101 ∨ c = 104 ∨ c = 105 ∨ c = 107 ∨ c = 108 ∨ c = 109 ∨ c = 110 ∨ c = 111 ∨ c = 112) M M1) (q99_0 : (M1 99 0 = M 99 0)) (q99_1 : (M1 99 1 = M 99 1)) (q99_2 : (M1 99 2 = M 99 2)) (q99_3 : (M1 99 3 = M 99 3)) (q100_0 : id (M1 100 0 = M 100 0)) (q100_1 : id (M1 100 1 = M 100 1)) (q100_2 : id (M1 100 2 = M 100 2)) (q100_3 : id (M1 100 3 = M 100 3)) (q100_49 : id (M1 100 49 = M 100 49)) (q100_50 : id (M1 100 50 = M 100 50)) (q100_51 : id (M1 100 51 = M 100 51)) (q100_52 : id (M1 100 52 = M 100 52)) (q103_0 : id (M1 103 0 = M 103 0)) (q103_1 : id (M1 103 1 = M 103 1)) (q97_10 : (M1 97 10 = M 97 10)) (q97_44 : (M1 97 44 = M 97 44)) (cls1 : CLS M1) (kn1 : ∀ j : Nat, j < 25 → M1 104 (25 + j) = M 101 j) (tz : M1 97 12 = 0) (n1 : 0 ≤ M1 97 19 ∧ M1 97 19 ≤ 12) (v17 : Int) (e17 : M1 97 17 = v17) (ev : EVQ S (tXf K W 12 0 0) v17) (hd1 : 0 ≤ M1 97 32 ∧ M1 97 32 ≤ 20 * ci) (hk : 0 ≤ ci ∧ ci ≤ M1 97 19), (M1 97 19 - ci).toNat = kk → G X 12 RX10 cX10_evening 4 (some .int) (Qi (fun r M1 => IM M1 ∧ Fr (fun c => c = 97 ∨ c = 98 ∨ c = 101 ∨ c = 104 ∨ c = 105 ∨ c = 107 ∨ c = 108 ∨ c = 109 ∨ c = 110 ∨ c = 111 ∨ c = 112) M M1 ∧ M1 99 0 = M 99 0 ∧ M1 99 1 = M 99 1 ∧ M1 99 2 = M 99 2 ∧ M1 99 3 = M 99 3 ∧ M1 100 0 = M 100 0 ∧ M1 100 1 = M 100 1 ∧ M1 100 2 = M 100 2 ∧ M1 100 3 = M 100 3 ∧ M1 100 49 = M 100 49 ∧ M1 100 50 = M 100 50 ∧ M1 100 51 = M 100 51 ∧ M1 100 52 = M 100 52 ∧ M1 103 0 = M 103 0 ∧ M1 103 1 = M 103 1 ∧ M1 97 10 = M 97 10 ∧ M1 97 44 = M 97 44 ∧ ((inI r ∧ M1 97 12 = 0) ∧ EVQ S (tXf K W 12 0 0) (M1 97 17)))) 111 [(1, vi ci), (0, vr X 97)] [] M1 := by
  intro kk
  induction kk using Nat.strongRecOn with
  | ind kk ih =>
    intro ci M1 ic1 fr1 q99_0 q99_1 q99_2 q99_3 q100_0 q100_1 q100_2 q100_3 q100_49 q100_50 q100_51 q100_52 q103_0 q103_1 q97_10 q97_44 cls1 kn1 tz n1 v17 e17 ev hd1 hk hmes
    have p0 := hi.1.1
    have p1 := hi.1.2.1
    have p2 := hi.1.2.2.1
    have p3 := hi.1.2.2.2.1
    have p12 := hi.2.2.2.1
    refine g_iload_n (pc' := 112) 0 dX10_evening_111 rfl rfl ?_
    refine g_aload_n (pc' := 113) 1 dX10_evening_112 rfl rfl ?_
    refine g_getI (pc' := 116) dX10_evening_113 rfl f_X10_284 rfl rfl (fun v2 ev2 rv2 => ?_)
    refine g_ic_ge (pc' := 119) (tgt := 179) ⟨by omega, by omega⟩ rv2 dX10_evening_116 rfl rfl (fun c3 => ?_) (fun c3 => ?_)
    · refine g_aload_n (pc' := 180) 1 dX10_evening_179 rfl rfl ?_
      refine g_aload_n (pc' := 181) 1 dX10_evening_180 rfl rfl ?_
      refine g_getI (pc' := 184) dX10_evening_181 rfl f_X10_298 rfl rfl (fun v4 ev4 rv4 => ?_)
      refine g_callVi (pc' := 187) (As := [vi v4]) (b := 97) (S := []) dX10_evening_184 rfl m_X10_87 w_X10_tell (c_X10_tell X M1 ic1 v4 rv4 (by omega)) rfl ⟨_, _, _, rfl, rfl, rfl⟩ (by decide) (by decide) rfl (Nat.le_of_ble_eq_true rfl) (fun z6 M7 q5 => ?_)
      obtain ⟨iM7, fM70, eM7_99_0, eM7_99_1, eM7_99_2, eM7_99_3, eM7_100_0, eM7_100_1, eM7_100_2, eM7_100_3, eM7_100_49, eM7_100_50, eM7_100_51, eM7_100_52, eM7_103_0, eM7_103_1, eM7_97_12, eM7_97_17, eM7_97_33, eM7_97_10, eM7_97_44, pM7⟩ := q5
      have fM7 : Fr (fun c => c = 97 ∨ c = 98 ∨ c = 101 ∨ c = 104 ∨ c = 105 ∨ c = 107 ∨ c = 108 ∨ c = 109 ∨ c = 110 ∨ c = 111 ∨ c = 112) M M7 := Fr.tr fr1 fM70 fi_55
      have q99_0_M7 : (M7 99 0 = M 99 0) := eM7_99_0.trans q99_0
      have q99_1_M7 : (M7 99 1 = M 99 1) := eM7_99_1.trans q99_1
      have q99_2_M7 : (M7 99 2 = M 99 2) := eM7_99_2.trans q99_2
      have q99_3_M7 : (M7 99 3 = M 99 3) := eM7_99_3.trans q99_3
      have q100_0_M7 : id (M7 100 0 = M 100 0) := eM7_100_0.trans q100_0
      have q100_1_M7 : id (M7 100 1 = M 100 1) := eM7_100_1.trans q100_1
      have q100_2_M7 : id (M7 100 2 = M 100 2) := eM7_100_2.trans q100_2
      have q100_3_M7 : id (M7 100 3 = M 100 3) := eM7_100_3.trans q100_3
      have q100_49_M7 : id (M7 100 49 = M 100 49) := eM7_100_49.trans q100_49
      have q100_50_M7 : id (M7 100 50 = M 100 50) := eM7_100_50.trans q100_50
      have q100_51_M7 : id (M7 100 51 = M 100 51) := eM7_100_51.trans q100_51
      have q100_52_M7 : id (M7 100 52 = M 100 52) := eM7_100_52.trans q100_52
      have q103_0_M7 : id (M7 103 0 = M 103 0) := eM7_103_0.trans q103_0
      have q103_1_M7 : id (M7 103 1 = M 103 1) := eM7_103_1.trans q103_1
      have q97_10_M7 : (M7 97 10 = M 97 10) := eM7_97_10.trans q97_10
      have q97_44_M7 : (M7 97 44 = M 97 44) := eM7_97_44.trans q97_44
      have wM7_97_12 : M7 97 12 = M1 97 12 := eM7_97_12
      have wM7_97_17 : M7 97 17 = M1 97 17 := eM7_97_17
      clear eM7_100_0 eM7_100_1 eM7_100_2 eM7_100_3 eM7_100_49 eM7_100_50 eM7_100_51 eM7_100_52 eM7_103_0 eM7_103_1
      refine g_ireturn dX10_evening_187 ?_
      exact ⟨iM7, fM7, q99_0_M7, q99_1_M7, q99_2_M7, q99_3_M7, q100_0_M7, q100_1_M7, q100_2_M7, q100_3_M7, q100_49_M7, q100_50_M7, q100_51_M7, q100_52_M7, q103_0_M7, q103_1_M7, q97_10_M7, q97_44_M7, by omega, by rw [show M7 97 17 = v17 by omega]; exact ev⟩
    · refine g_iconst (pc' := 120) dX10_evening_119 rfl ?_
      refine g_istore_n (pc' := 121) (i := 2) (L' := [(2, vi 0), (1, vi ci), (0, vr X 97)]) dX10_evening_120 rfl rfl (by decide) rfl ?_
      refine g_sub [1, 0, 2] rfl ?_
      exact l_X10_evening_x_121 X M hi K W S E m hz kk ih _ ci 0 M1 ic1 fr1 q99_0 q99_1 q99_2 q99_3 q100_0 q100_1 q100_2 q100_3 q100_49 q100_50 q100_51 q100_52 q103_0 q103_1 q97_10 q97_44 cls1 kn1 (by omega) (by omega) v17 (by omega) ev (by omega) (by omega) (by omega) (by omega) rfl
set_option maxHeartbeats 4000000 in
set_option maxRecDepth 100000 in
theorem j_X10_evening_x_79 (X : Cx) (M : Mm) (hi : IM M) (K W S E : Nat → Int) (m : Nat) (hz : TZM M K W S E m)  (M1 : Mm) (ic1 : IM M1) (fr1 : Fr (fun c => c = 97 ∨ c = 98 ∨ c = 101 ∨ c = 104 ∨ c = 105 ∨ c = 107 ∨ c = 108 ∨ c = 109 ∨ c = 110 ∨ c = 111 ∨ c = 112) M M1) (q99_0 : (M1 99 0 = M 99 0)) (q99_1 : (M1 99 1 = M 99 1)) (q99_2 : (M1 99 2 = M 99 2)) (q99_3 : (M1 99 3 = M 99 3)) (q100_0 : id (M1 100 0 = M 100 0)) (q100_1 : id (M1 100 1 = M 100 1)) (q100_2 : id (M1 100 2 = M 100 2)) (q100_3 : id (M1 100 3 = M 100 3)) (q100_49 : id (M1 100 49 = M 100 49)) (q100_50 : id (M1 100 50 = M 100 50)) (q100_51 : id (M1 100 51 = M 100 51)) (q100_52 : id (M1 100 52 = M 100 52)) (q103_0 : id (M1 103 0 = M 103 0)) (q103_1 : id (M1 103 1 = M 103 1)) (q97_10 : (M1 97 10 = M 97 10)) (q97_44 : (M1 97 44 = M 97 44)) (cb1 : CB M1) (n1 : (0 ≤ M1 97 19 ∧ M1 97 19 ≤ 12) ∧ (0 ≤ M1 97 21)) (c1 : M1 101 = M 101) (v17 : Int) (e17 : M1 97 17 = v17) (ev : EVQ S (tXf K W 12 0 0) v17) : G X 12 RX10 cX10_evening 4 (some .int) (Qi (fun r M1 => IM M1 ∧ Fr (fun c => c = 97 ∨ c = 98 ∨ c = 101 ∨ c = 104 ∨ c = 105 ∨ c = 107 ∨ c = 108 ∨ c = 109 ∨ c = 110 ∨ c = 111 ∨ c = 112) M M1 ∧ M1 99 0 = M 99 0 ∧ M1 99 1 = M 99 1 ∧ M1 99 2 = M 99 2 ∧ M1 99 3 = M 99 3 ∧ M1 100 0 = M 100 0 ∧ M1 100 1 = M 100 1 ∧ M1 100 2 = M 100 2 ∧ M1 100 3 = M 100 3 ∧ M1 100 49 = M 100 49 ∧ M1 100 50 = M 100 50 ∧ M1 100 51 = M 100 51 ∧ M1 100 52 = M 100 52 ∧ M1 103 0 = M 103 0 ∧ M1 103 1 = M 103 1 ∧ M1 97 10 = M 97 10 ∧ M1 97 44 = M 97 44 ∧ ((inI r ∧ M1 97 12 = 0) ∧ EVQ S (tXf K W 12 0 0) (M1 97 17)))) 79 [(0, vr X 97)] [] M1 := by
  have p0 := hi.1.1
  have p1 := hi.1.2.1
  have p2 := hi.1.2.2.1
  have p3 := hi.1.2.2.2.1
  have p12 := hi.2.2.2.1
  refine g_aload_n (pc' := 80) 0 dX10_evening_79 rfl rfl ?_
  refine g_iconst (pc' := 81) dX10_evening_80 rfl ?_
  refine g_putI (pc' := 84) dX10_evening_81 rfl p_X10_142 rfl rfl (by decide) (fun M2 hM2 => ?_)
  have iM2 : IM M2 := IM.wr ic1 hM2 (by unfold okv; first | decide | omega)
  have fM2 : Fr (fun c => c = 97 ∨ c = 98 ∨ c = 101 ∨ c = 104 ∨ c = 105 ∨ c = 107 ∨ c = 108 ∨ c = 109 ∨ c = 110 ∨ c = 111 ∨ c = 112) M M2 := Fr.wr fr1 hM2 (by first | decide | omega | (dsimp only; omega))
  have q99_0_M2 : (M2 99 0 = M 99 0) := (show M2 99 0 = M1 99 0 by rw [hM2]; exact mu_ne _ _ (by first | decide | omega)).trans q99_0
  have q99_1_M2 : (M2 99 1 = M 99 1) := (show M2 99 1 = M1 99 1 by rw [hM2]; exact mu_ne _ _ (by first | decide | omega)).trans q99_1
  have q99_2_M2 : (M2 99 2 = M 99 2) := (show M2 99 2 = M1 99 2 by rw [hM2]; exact mu_ne _ _ (by first | decide | omega)).trans q99_2
  have q99_3_M2 : (M2 99 3 = M 99 3) := (show M2 99 3 = M1 99 3 by rw [hM2]; exact mu_ne _ _ (by first | decide | omega)).trans q99_3
  have q100_0_M2 : id (M2 100 0 = M 100 0) := (show M2 100 0 = M1 100 0 by rw [hM2]; exact mu_ne _ _ (by first | decide | omega)).trans q100_0
  have q100_1_M2 : id (M2 100 1 = M 100 1) := (show M2 100 1 = M1 100 1 by rw [hM2]; exact mu_ne _ _ (by first | decide | omega)).trans q100_1
  have q100_2_M2 : id (M2 100 2 = M 100 2) := (show M2 100 2 = M1 100 2 by rw [hM2]; exact mu_ne _ _ (by first | decide | omega)).trans q100_2
  have q100_3_M2 : id (M2 100 3 = M 100 3) := (show M2 100 3 = M1 100 3 by rw [hM2]; exact mu_ne _ _ (by first | decide | omega)).trans q100_3
  have q100_49_M2 : id (M2 100 49 = M 100 49) := (show M2 100 49 = M1 100 49 by rw [hM2]; exact mu_ne _ _ (by first | decide | omega)).trans q100_49
  have q100_50_M2 : id (M2 100 50 = M 100 50) := (show M2 100 50 = M1 100 50 by rw [hM2]; exact mu_ne _ _ (by first | decide | omega)).trans q100_50
  have q100_51_M2 : id (M2 100 51 = M 100 51) := (show M2 100 51 = M1 100 51 by rw [hM2]; exact mu_ne _ _ (by first | decide | omega)).trans q100_51
  have q100_52_M2 : id (M2 100 52 = M 100 52) := (show M2 100 52 = M1 100 52 by rw [hM2]; exact mu_ne _ _ (by first | decide | omega)).trans q100_52
  have q103_0_M2 : id (M2 103 0 = M 103 0) := (show M2 103 0 = M1 103 0 by rw [hM2]; exact mu_ne _ _ (by first | decide | omega)).trans q103_0
  have q103_1_M2 : id (M2 103 1 = M 103 1) := (show M2 103 1 = M1 103 1 by rw [hM2]; exact mu_ne _ _ (by first | decide | omega)).trans q103_1
  have q97_10_M2 : (M2 97 10 = M 97 10) := (show M2 97 10 = M1 97 10 by rw [hM2]; exact mu_ne _ _ (by first | decide | omega)).trans q97_10
  have q97_44_M2 : (M2 97 44 = M 97 44) := (show M2 97 44 = M1 97 44 by rw [hM2]; exact mu_ne _ _ (by first | decide | omega)).trans q97_44
  have wM2_97_13 : M2 97 13 = M1 97 13 := by rw [hM2]; exact mu_ne _ _ (by first | decide | omega)
  have wM2_97_14 : M2 97 14 = M1 97 14 := by rw [hM2]; exact mu_ne _ _ (by first | decide | omega)
  have wM2_97_15 : M2 97 15 = M1 97 15 := by rw [hM2]; exact mu_ne _ _ (by first | decide | omega)
  have wM2_97_16 : M2 97 16 = M1 97 16 := by rw [hM2]; exact mu_ne _ _ (by first | decide | omega)
  have wM2_97_17 : M2 97 17 = M1 97 17 := by rw [hM2]; exact mu_ne _ _ (by first | decide | omega)
  have wM2_97_18 : M2 97 18 = M1 97 18 := by rw [hM2]; exact mu_ne _ _ (by first | decide | omega)
  have wM2_97_19 : M2 97 19 = M1 97 19 := by rw [hM2]; exact mu_ne _ _ (by first | decide | omega)
  have wM2_97_21 : M2 97 21 = M1 97 21 := by rw [hM2]; exact mu_ne _ _ (by first | decide | omega)
  have wM2_97_24 : M2 97 24 = M1 97 24 := by rw [hM2]; exact mu_ne _ _ (by first | decide | omega)
  have wM2_97_32 : M2 97 32 = M1 97 32 := by rw [hM2]; exact mu_ne _ _ (by first | decide | omega)
  have xM2_97_12 : M2 97 12 = 0 := by rw [hM2]; exact mu_at _ _ _ _
  have c1M2 : M2 101 = M 101 := (show M2 101 = M1 101 by rw [hM2, mu_cell _ _ (by decide)]).trans c1
  have cbM2 : CB M2 := CB.nx cb1 (by rw [hM2, mu_cell _ _ (by decide)]) (by rw [hM2, mu_cell _ _ (by decide)]) (by rw [hM2, mu_cell _ _ (by decide)]) (by omega) (by omega) (by omega)
  refine g_aload_n (pc' := 85) 0 dX10_evening_84 rfl rfl ?_
  refine g_getI (pc' := 88) dX10_evening_85 rfl f_X10_154 rfl rfl (fun v3 ev3 rv3 => ?_)
  refine g_if_eq (pc' := 91) (tgt := 98) rv3 dX10_evening_88 rfl rfl (fun c4 => ?_) (fun c4 => ?_)
  · refine g_aload_n (pc' := 99) 0 dX10_evening_98 rfl rfl ?_
    refine g_bipush (pc' := 101) (v := 25) dX10_evening_99 rfl (by decide) ?_
    refine g_callVv (pc' := 104) (As := [vi 25]) (b := 97) (S := []) dX10_evening_101 rfl m_X10_123 w_X10_keep (c_X10_keep X M2 25 (by decide) ⟨by omega, by omega⟩) rfl ⟨_, _, _, rfl, rfl, rfl⟩ (by decide) (by decide) rfl (Nat.le_of_ble_eq_true rfl) (fun M6 q5 => ?_)
    obtain ⟨fkM6, kpM6, usM6⟩ := q5
    have iM6 : IM M6 := IM.fr iM2 fkM6 (fun c z => by omega)
    have q99_0_M6 : M6 99 0 = M 99 0 := (congrFun (fkM6 99 (by omega)) 0).trans q99_0_M2
    have q99_1_M6 : M6 99 1 = M 99 1 := (congrFun (fkM6 99 (by omega)) 1).trans q99_1_M2
    have q99_2_M6 : M6 99 2 = M 99 2 := (congrFun (fkM6 99 (by omega)) 2).trans q99_2_M2
    have q99_3_M6 : M6 99 3 = M 99 3 := (congrFun (fkM6 99 (by omega)) 3).trans q99_3_M2
    have q100_0_M6 : M6 100 0 = M 100 0 := (congrFun (fkM6 100 (by omega)) 0).trans q100_0_M2
    have q100_1_M6 : M6 100 1 = M 100 1 := (congrFun (fkM6 100 (by omega)) 1).trans q100_1_M2
    have q100_2_M6 : M6 100 2 = M 100 2 := (congrFun (fkM6 100 (by omega)) 2).trans q100_2_M2
    have q100_3_M6 : M6 100 3 = M 100 3 := (congrFun (fkM6 100 (by omega)) 3).trans q100_3_M2
    have q100_49_M6 : M6 100 49 = M 100 49 := (congrFun (fkM6 100 (by omega)) 49).trans q100_49_M2
    have q100_50_M6 : M6 100 50 = M 100 50 := (congrFun (fkM6 100 (by omega)) 50).trans q100_50_M2
    have q100_51_M6 : M6 100 51 = M 100 51 := (congrFun (fkM6 100 (by omega)) 51).trans q100_51_M2
    have q100_52_M6 : M6 100 52 = M 100 52 := (congrFun (fkM6 100 (by omega)) 52).trans q100_52_M2
    have q103_0_M6 : M6 103 0 = M 103 0 := (congrFun (fkM6 103 (by omega)) 0).trans q103_0_M2
    have q103_1_M6 : M6 103 1 = M 103 1 := (congrFun (fkM6 103 (by omega)) 1).trans q103_1_M2
    have q97_10_M6 : M6 97 10 = M 97 10 := (congrFun (fkM6 97 (by omega)) 10).trans q97_10_M2
    have q97_44_M6 : M6 97 44 = M 97 44 := (congrFun (fkM6 97 (by omega)) 44).trans q97_44_M2
    have fM6 : Fr (fun c => c = 97 ∨ c = 98 ∨ c = 101 ∨ c = 104 ∨ c = 105 ∨ c = 107 ∨ c = 108 ∨ c = 109 ∨ c = 110 ∨ c = 111 ∨ c = 112) M M6 := Fr.tr fM2 fkM6 (fun c z => by omega)
    have wM6_97_12 := congrFun (fkM6 97 (by omega)) 12
    have wM6_97_13 := congrFun (fkM6 97 (by omega)) 13
    have wM6_97_14 := congrFun (fkM6 97 (by omega)) 14
    have wM6_97_15 := congrFun (fkM6 97 (by omega)) 15
    have wM6_97_16 := congrFun (fkM6 97 (by omega)) 16
    have wM6_97_17 := congrFun (fkM6 97 (by omega)) 17
    have wM6_97_18 := congrFun (fkM6 97 (by omega)) 18
    have wM6_97_19 := congrFun (fkM6 97 (by omega)) 19
    have wM6_97_21 := congrFun (fkM6 97 (by omega)) 21
    have wM6_97_24 := congrFun (fkM6 97 (by omega)) 24
    have wM6_97_32 := congrFun (fkM6 97 (by omega)) 32
    have knM6 : ∀ j : Nat, j < 25 → M6 104 (25 + j) = M 101 j := fun j hj => (kpM6 j hj).trans (by rw [c1M2])
    have clsM6 : CLS M6 := CLS.nx (cbM2 (by omega)) (fkM6 107 (by decide)) (fkM6 108 (by decide)) (fkM6 109 (by decide)) (by omega) (by omega)
    refine g_aload_n (pc' := 105) 0 dX10_evening_104 rfl rfl ?_
    refine g_iconst (pc' := 106) dX10_evening_105 rfl ?_
    refine g_putI (pc' := 109) dX10_evening_106 rfl p_X10_298 rfl rfl (by decide) (fun M7 hM7 => ?_)
    have iM7 : IM M7 := IM.wr iM6 hM7 (by unfold okv; first | decide | omega)
    have fM7 : Fr (fun c => c = 97 ∨ c = 98 ∨ c = 101 ∨ c = 104 ∨ c = 105 ∨ c = 107 ∨ c = 108 ∨ c = 109 ∨ c = 110 ∨ c = 111 ∨ c = 112) M M7 := Fr.wr fM6 hM7 (by first | decide | omega | (dsimp only; omega))
    have q99_0_M7 : (M7 99 0 = M 99 0) := (show M7 99 0 = M6 99 0 by rw [hM7]; exact mu_ne _ _ (by first | decide | omega)).trans q99_0_M6
    have q99_1_M7 : (M7 99 1 = M 99 1) := (show M7 99 1 = M6 99 1 by rw [hM7]; exact mu_ne _ _ (by first | decide | omega)).trans q99_1_M6
    have q99_2_M7 : (M7 99 2 = M 99 2) := (show M7 99 2 = M6 99 2 by rw [hM7]; exact mu_ne _ _ (by first | decide | omega)).trans q99_2_M6
    have q99_3_M7 : (M7 99 3 = M 99 3) := (show M7 99 3 = M6 99 3 by rw [hM7]; exact mu_ne _ _ (by first | decide | omega)).trans q99_3_M6
    have q100_0_M7 : id (M7 100 0 = M 100 0) := (show M7 100 0 = M6 100 0 by rw [hM7]; exact mu_ne _ _ (by first | decide | omega)).trans q100_0_M6
    have q100_1_M7 : id (M7 100 1 = M 100 1) := (show M7 100 1 = M6 100 1 by rw [hM7]; exact mu_ne _ _ (by first | decide | omega)).trans q100_1_M6
    have q100_2_M7 : id (M7 100 2 = M 100 2) := (show M7 100 2 = M6 100 2 by rw [hM7]; exact mu_ne _ _ (by first | decide | omega)).trans q100_2_M6
    have q100_3_M7 : id (M7 100 3 = M 100 3) := (show M7 100 3 = M6 100 3 by rw [hM7]; exact mu_ne _ _ (by first | decide | omega)).trans q100_3_M6
    have q100_49_M7 : id (M7 100 49 = M 100 49) := (show M7 100 49 = M6 100 49 by rw [hM7]; exact mu_ne _ _ (by first | decide | omega)).trans q100_49_M6
    have q100_50_M7 : id (M7 100 50 = M 100 50) := (show M7 100 50 = M6 100 50 by rw [hM7]; exact mu_ne _ _ (by first | decide | omega)).trans q100_50_M6
    have q100_51_M7 : id (M7 100 51 = M 100 51) := (show M7 100 51 = M6 100 51 by rw [hM7]; exact mu_ne _ _ (by first | decide | omega)).trans q100_51_M6
    have q100_52_M7 : id (M7 100 52 = M 100 52) := (show M7 100 52 = M6 100 52 by rw [hM7]; exact mu_ne _ _ (by first | decide | omega)).trans q100_52_M6
    have q103_0_M7 : id (M7 103 0 = M 103 0) := (show M7 103 0 = M6 103 0 by rw [hM7]; exact mu_ne _ _ (by first | decide | omega)).trans q103_0_M6
    have q103_1_M7 : id (M7 103 1 = M 103 1) := (show M7 103 1 = M6 103 1 by rw [hM7]; exact mu_ne _ _ (by first | decide | omega)).trans q103_1_M6
    have q97_10_M7 : (M7 97 10 = M 97 10) := (show M7 97 10 = M6 97 10 by rw [hM7]; exact mu_ne _ _ (by first | decide | omega)).trans q97_10_M6
    have q97_44_M7 : (M7 97 44 = M 97 44) := (show M7 97 44 = M6 97 44 by rw [hM7]; exact mu_ne _ _ (by first | decide | omega)).trans q97_44_M6
    have wM7_97_12 : M7 97 12 = M6 97 12 := by rw [hM7]; exact mu_ne _ _ (by first | decide | omega)
    have wM7_97_13 : M7 97 13 = M6 97 13 := by rw [hM7]; exact mu_ne _ _ (by first | decide | omega)
    have wM7_97_14 : M7 97 14 = M6 97 14 := by rw [hM7]; exact mu_ne _ _ (by first | decide | omega)
    have wM7_97_15 : M7 97 15 = M6 97 15 := by rw [hM7]; exact mu_ne _ _ (by first | decide | omega)
    have wM7_97_16 : M7 97 16 = M6 97 16 := by rw [hM7]; exact mu_ne _ _ (by first | decide | omega)
    have wM7_97_17 : M7 97 17 = M6 97 17 := by rw [hM7]; exact mu_ne _ _ (by first | decide | omega)
    have wM7_97_18 : M7 97 18 = M6 97 18 := by rw [hM7]; exact mu_ne _ _ (by first | decide | omega)
    have wM7_97_19 : M7 97 19 = M6 97 19 := by rw [hM7]; exact mu_ne _ _ (by first | decide | omega)
    have wM7_97_21 : M7 97 21 = M6 97 21 := by rw [hM7]; exact mu_ne _ _ (by first | decide | omega)
    have wM7_97_24 : M7 97 24 = M6 97 24 := by rw [hM7]; exact mu_ne _ _ (by first | decide | omega)
    have xM7_97_32 : M7 97 32 = 0 := by rw [hM7]; exact mu_at _ _ _ _
    have knM7 : ∀ j : Nat, j < 25 → M7 104 (25 + j) = M 101 j := fun j hj => by rw [hM7, mu_cell _ _ (by decide)]; exact knM6 j hj
    have clsM7 : CLS M7 := CLS.nx clsM6 (by rw [hM7, mu_cell _ _ (by decide)]) (by rw [hM7, mu_cell _ _ (by decide)]) (by rw [hM7, mu_cell _ _ (by decide)]) (by omega) (by omega)
    refine g_iconst (pc' := 110) dX10_evening_109 rfl ?_
    refine g_istore_n (pc' := 111) (i := 1) (L' := [(1, vi 0), (0, vr X 97)]) dX10_evening_110 rfl rfl (by decide) rfl ?_
    refine g_sub [0, 1] rfl ?_
    exact l_X10_evening_x_111 X M hi K W S E m hz _ 0 M7 iM7 fM7 q99_0_M7 q99_1_M7 q99_2_M7 q99_3_M7 q100_0_M7 q100_1_M7 q100_2_M7 q100_3_M7 q100_49_M7 q100_50_M7 q100_51_M7 q100_52_M7 q103_0_M7 q103_1_M7 q97_10_M7 q97_44_M7 clsM7 knM7 (by omega) (by omega) v17 (by omega) ev (by omega) (by omega) rfl
  · refine g_aload_n (pc' := 92) 0 dX10_evening_91 rfl rfl ?_
    refine g_bipush (pc' := 94) (v := (-6)) dX10_evening_92 rfl (by decide) ?_
    refine g_callVi (pc' := 97) (As := [vi (-6)]) (b := 97) (S := []) dX10_evening_94 rfl m_X10_87 w_X10_tell (c_X10_tell X M2 iM2 (-6) (by decide) (by omega)) rfl ⟨_, _, _, rfl, rfl, rfl⟩ (by decide) (by decide) rfl (Nat.le_of_ble_eq_true rfl) (fun z9 M10 q8 => ?_)
    obtain ⟨iM10, fM100, eM10_99_0, eM10_99_1, eM10_99_2, eM10_99_3, eM10_100_0, eM10_100_1, eM10_100_2, eM10_100_3, eM10_100_49, eM10_100_50, eM10_100_51, eM10_100_52, eM10_103_0, eM10_103_1, eM10_97_12, eM10_97_17, eM10_97_33, eM10_97_10, eM10_97_44, pM10⟩ := q8
    have fM10 : Fr (fun c => c = 97 ∨ c = 98 ∨ c = 101 ∨ c = 104 ∨ c = 105 ∨ c = 107 ∨ c = 108 ∨ c = 109 ∨ c = 110 ∨ c = 111 ∨ c = 112) M M10 := Fr.tr fM2 fM100 fi_55
    have q99_0_M10 : (M10 99 0 = M 99 0) := eM10_99_0.trans q99_0_M2
    have q99_1_M10 : (M10 99 1 = M 99 1) := eM10_99_1.trans q99_1_M2
    have q99_2_M10 : (M10 99 2 = M 99 2) := eM10_99_2.trans q99_2_M2
    have q99_3_M10 : (M10 99 3 = M 99 3) := eM10_99_3.trans q99_3_M2
    have q100_0_M10 : id (M10 100 0 = M 100 0) := eM10_100_0.trans q100_0_M2
    have q100_1_M10 : id (M10 100 1 = M 100 1) := eM10_100_1.trans q100_1_M2
    have q100_2_M10 : id (M10 100 2 = M 100 2) := eM10_100_2.trans q100_2_M2
    have q100_3_M10 : id (M10 100 3 = M 100 3) := eM10_100_3.trans q100_3_M2
    have q100_49_M10 : id (M10 100 49 = M 100 49) := eM10_100_49.trans q100_49_M2
    have q100_50_M10 : id (M10 100 50 = M 100 50) := eM10_100_50.trans q100_50_M2
    have q100_51_M10 : id (M10 100 51 = M 100 51) := eM10_100_51.trans q100_51_M2
    have q100_52_M10 : id (M10 100 52 = M 100 52) := eM10_100_52.trans q100_52_M2
    have q103_0_M10 : id (M10 103 0 = M 103 0) := eM10_103_0.trans q103_0_M2
    have q103_1_M10 : id (M10 103 1 = M 103 1) := eM10_103_1.trans q103_1_M2
    have q97_10_M10 : (M10 97 10 = M 97 10) := eM10_97_10.trans q97_10_M2
    have q97_44_M10 : (M10 97 44 = M 97 44) := eM10_97_44.trans q97_44_M2
    have wM10_97_12 : M10 97 12 = M2 97 12 := eM10_97_12
    have wM10_97_17 : M10 97 17 = M2 97 17 := eM10_97_17
    have xM10_97_12 : M10 97 12 = 0 := eM10_97_12.trans xM2_97_12
    clear eM10_100_0 eM10_100_1 eM10_100_2 eM10_100_3 eM10_100_49 eM10_100_50 eM10_100_51 eM10_100_52 eM10_103_0 eM10_103_1
    refine g_ireturn dX10_evening_97 ?_
    exact ⟨iM10, fM10, q99_0_M10, q99_1_M10, q99_2_M10, q99_3_M10, q100_0_M10, q100_1_M10, q100_2_M10, q100_3_M10, q100_49_M10, q100_50_M10, q100_51_M10, q100_52_M10, q103_0_M10, q103_1_M10, q97_10_M10, q97_44_M10, by omega, by rw [show M10 97 17 = v17 by omega]; exact ev⟩
set_option maxHeartbeats 4000000 in
set_option maxRecDepth 100000 in
theorem l_X10_evening_x_33 (X : Cx) (M : Mm) (hi : IM M) (K W S E : Nat → Int) (m : Nat) (hz : TZM M K W S E m) : ∀ (kk : Nat)  (M1 : Mm) (ic1 : IM M1) (fr1 : Fr (fun c => c = 97 ∨ c = 98 ∨ c = 101 ∨ c = 104 ∨ c = 105 ∨ c = 107 ∨ c = 108 ∨ c = 109 ∨ c = 110 ∨ c = 111 ∨ c = 112) M M1) (q99_0 : (M1 99 0 = M 99 0)) (q99_1 : (M1 99 1 = M 99 1)) (q99_2 : (M1 99 2 = M 99 2)) (q99_3 : (M1 99 3 = M 99 3)) (q100_0 : id (M1 100 0 = M 100 0)) (q100_1 : id (M1 100 1 = M 100 1)) (q100_2 : id (M1 100 2 = M 100 2)) (q100_3 : id (M1 100 3 = M 100 3)) (q100_49 : id (M1 100 49 = M 100 49)) (q100_50 : id (M1 100 50 = M 100 50)) (q100_51 : id (M1 100 51 = M 100 51)) (q100_52 : id (M1 100 52 = M 100 52)) (q103_0 : id (M1 103 0 = M 103 0)) (q103_1 : id (M1 103 1 = M 103 1)) (q97_10 : (M1 97 10 = M 97 10)) (q97_44 : (M1 97 44 = M 97 44)) (tk1 : TK M1) (n2 : M1 97 21 ≤ M1 97 13) (tz1 : TZM M1 K W S E m) (cb1 : CB M1) (n1 : (0 ≤ M1 97 19 ∧ M1 97 19 ≤ 12) ∧ (0 ≤ M1 97 21)) (c1 : M1 101 = M 101) (nx : Int) (jx : Nat) (lx : Int) (hn : 0 ≤ nx ∧ nx ≤ 12) (cq1 : CLQ K W S E m jx lx nx M1) (tx : tXf K W 12 0 0 = tXf K W (12 - nx).toNat jx lx), (400 - M1 97 13).toNat = kk → G X 12 RX10 cX10_evening 4 (some .int) (Qi (fun r M1 => IM M1 ∧ Fr (fun c => c = 97 ∨ c = 98 ∨ c = 101 ∨ c = 104 ∨ c = 105 ∨ c = 107 ∨ c = 108 ∨ c = 109 ∨ c = 110 ∨ c = 111 ∨ c = 112) M M1 ∧ M1 99 0 = M 99 0 ∧ M1 99 1 = M 99 1 ∧ M1 99 2 = M 99 2 ∧ M1 99 3 = M 99 3 ∧ M1 100 0 = M 100 0 ∧ M1 100 1 = M 100 1 ∧ M1 100 2 = M 100 2 ∧ M1 100 3 = M 100 3 ∧ M1 100 49 = M 100 49 ∧ M1 100 50 = M 100 50 ∧ M1 100 51 = M 100 51 ∧ M1 100 52 = M 100 52 ∧ M1 103 0 = M 103 0 ∧ M1 103 1 = M 103 1 ∧ M1 97 10 = M 97 10 ∧ M1 97 44 = M 97 44 ∧ ((inI r ∧ M1 97 12 = 0) ∧ EVQ S (tXf K W 12 0 0) (M1 97 17)))) 33 [(0, vr X 97)] [] M1 := by
  intro kk
  induction kk using Nat.strongRecOn with
  | ind kk ih =>
    intro M1 ic1 fr1 q99_0 q99_1 q99_2 q99_3 q100_0 q100_1 q100_2 q100_3 q100_49 q100_50 q100_51 q100_52 q103_0 q103_1 q97_10 q97_44 tk1 n2 tz1 cb1 n1 c1 nx jx lx hn cq1 tx hmes
    have p0 := hi.1.1
    have p1 := hi.1.2.1
    have p2 := hi.1.2.2.1
    have p3 := hi.1.2.2.2.1
    have p12 := hi.2.2.2.1
    have p12b := ic1.2.2.2.1
    have tb1 := tk1.b
    have lt1 := tk1.lt
    refine g_aload_n (pc' := 34) 0 dX10_evening_33 rfl rfl ?_
    refine g_getI (pc' := 37) dX10_evening_34 rfl f_X10_154 rfl rfl (fun v2 ev2 rv2 => ?_)
    refine g_if_ne (pc' := 40) (tgt := 60) rv2 dX10_evening_37 rfl rfl (fun c3 => ?_) (fun c3 => ?_)
    · refine g_aload_n (pc' := 61) 0 dX10_evening_60 rfl rfl ?_
      refine g_getI (pc' := 64) dX10_evening_61 rfl f_X10_154 rfl rfl (fun v4 ev4 rv4 => ?_)
      obtain rfl : v2 = v4 := ev2.trans ev4.symm
      refine g_if_ne (pc' := 67) (tgt := 79) rv2 dX10_evening_64 rfl rfl (fun c5 => ?_) (fun c5 => ?_)
      · refine g_sub [0] rfl ?_
        exact j_X10_evening_x_79 X M hi K W S E m hz M1 ic1 fr1 q99_0 q99_1 q99_2 q99_3 q100_0 q100_1 q100_2 q100_3 q100_49 q100_50 q100_51 q100_52 q103_0 q103_1 q97_10 q97_44 cb1 (by omega) c1 (M1 97 17) rfl (by first | exact (TXG.b tx cq1 (by omega)).ev | exact (TXG.e tz1 tx cq1 (by omega) (by omega)).ev | exact False.elim (by omega))
      · refine g_aload_n (pc' := 68) 0 dX10_evening_67 rfl rfl ?_
        refine g_getI (pc' := 71) dX10_evening_68 rfl f_X10_174 rfl rfl (fun v6 ev6 rv6 => ?_)
        refine g_if_eq (pc' := 74) (tgt := 79) rv6 dX10_evening_71 rfl rfl (fun c7 => ?_) (fun c7 => ?_)
        · refine g_sub [0] rfl ?_
          exact j_X10_evening_x_79 X M hi K W S E m hz M1 ic1 fr1 q99_0 q99_1 q99_2 q99_3 q100_0 q100_1 q100_2 q100_3 q100_49 q100_50 q100_51 q100_52 q103_0 q103_1 q97_10 q97_44 cb1 (by omega) c1 (M1 97 17) rfl (by first | exact (TXG.b tx cq1 (by omega)).ev | exact (TXG.e tz1 tx cq1 (by omega) (by omega)).ev | exact False.elim (by omega))
        · refine g_aload_n (pc' := 75) 0 dX10_evening_74 rfl rfl ?_
          refine g_iconst (pc' := 76) dX10_evening_75 rfl ?_
          refine g_callVv (pc' := 79) (As := [vi 0]) (b := 97) (S := []) dX10_evening_76 rfl m_X10_187 w_X10_must (c_X10_must_x X M1 ic1 0 (by decide) tk1) rfl ⟨_, _, _, rfl, rfl, rfl⟩ (by decide) (by decide) rfl (Nat.le_of_ble_eq_true rfl) (fun M9 q8 => ?_)
          obtain ⟨iM9, fM90, eM9_97_12, eM9_97_19, eM9_97_21, eM9_97_24, eM9_97_27, eM9_97_28, eM9_97_10, eM9_97_44, pM9⟩ := q8
          have fM9 : Fr (fun c => c = 97 ∨ c = 98 ∨ c = 101 ∨ c = 104 ∨ c = 105 ∨ c = 107 ∨ c = 108 ∨ c = 109 ∨ c = 110 ∨ c = 111 ∨ c = 112) M M9 := Fr.tr fr1 fM90 fi_56
          have q99_0_M9 : (M9 99 0 = M 99 0) := (congrFun (fM90 99 (by first | decide | omega | (dsimp only; omega))) 0).trans q99_0
          have q99_1_M9 : (M9 99 1 = M 99 1) := (congrFun (fM90 99 (by first | decide | omega | (dsimp only; omega))) 1).trans q99_1
          have q99_2_M9 : (M9 99 2 = M 99 2) := (congrFun (fM90 99 (by first | decide | omega | (dsimp only; omega))) 2).trans q99_2
          have q99_3_M9 : (M9 99 3 = M 99 3) := (congrFun (fM90 99 (by first | decide | omega | (dsimp only; omega))) 3).trans q99_3
          have q100_0_M9 : id (M9 100 0 = M 100 0) := (congrFun (fM90 100 (by first | decide | omega | (dsimp only; omega))) 0).trans q100_0
          have q100_1_M9 : id (M9 100 1 = M 100 1) := (congrFun (fM90 100 (by first | decide | omega | (dsimp only; omega))) 1).trans q100_1
          have q100_2_M9 : id (M9 100 2 = M 100 2) := (congrFun (fM90 100 (by first | decide | omega | (dsimp only; omega))) 2).trans q100_2
          have q100_3_M9 : id (M9 100 3 = M 100 3) := (congrFun (fM90 100 (by first | decide | omega | (dsimp only; omega))) 3).trans q100_3
          have q100_49_M9 : id (M9 100 49 = M 100 49) := (congrFun (fM90 100 (by first | decide | omega | (dsimp only; omega))) 49).trans q100_49
          have q100_50_M9 : id (M9 100 50 = M 100 50) := (congrFun (fM90 100 (by first | decide | omega | (dsimp only; omega))) 50).trans q100_50
          have q100_51_M9 : id (M9 100 51 = M 100 51) := (congrFun (fM90 100 (by first | decide | omega | (dsimp only; omega))) 51).trans q100_51
          have q100_52_M9 : id (M9 100 52 = M 100 52) := (congrFun (fM90 100 (by first | decide | omega | (dsimp only; omega))) 52).trans q100_52
          have q103_0_M9 : id (M9 103 0 = M 103 0) := (congrFun (fM90 103 (by first | decide | omega | (dsimp only; omega))) 0).trans q103_0
          have q103_1_M9 : id (M9 103 1 = M 103 1) := (congrFun (fM90 103 (by first | decide | omega | (dsimp only; omega))) 1).trans q103_1
          have q97_10_M9 : (M9 97 10 = M 97 10) := eM9_97_10.trans q97_10
          have q97_44_M9 : (M9 97 44 = M 97 44) := eM9_97_44.trans q97_44
          have wM9_97_12 : M9 97 12 = M1 97 12 := eM9_97_12
          have wM9_97_19 : M9 97 19 = M1 97 19 := eM9_97_19
          have wM9_97_21 : M9 97 21 = M1 97 21 := eM9_97_21
          have wM9_97_24 : M9 97 24 = M1 97 24 := eM9_97_24
          have tzM9 : TZM M9 K W S E m := TZM.eq tz1 (fM90 106 (by decide)) eM9_97_12
          have c1M9 : M9 101 = M 101 := (fM90 101 (by decide)).trans c1
          obtain ⟨xxM9, aM9p, bM9p, cM9p, kM9p⟩ := pM9
          have tkM9 : TK M9 := kM9p
          clear kM9p
          have tbM9 := tkM9.b
          have cbM9 : CB M9 := CB.nx cb1 (fM90 107 (by decide)) (fM90 108 (by decide)) (fM90 109 (by decide)) (by omega) (by omega) (by omega)
          refine g_sub [0] rfl ?_
          exact j_X10_evening_x_79 X M hi K W S E m hz M9 iM9 fM9 q99_0_M9 q99_1_M9 q99_2_M9 q99_3_M9 q100_0_M9 q100_1_M9 q100_2_M9 q100_3_M9 q100_49_M9 q100_50_M9 q100_51_M9 q100_52_M9 q103_0_M9 q103_1_M9 q97_10_M9 q97_44_M9 cbM9 (by omega) c1M9 (M9 97 17) rfl (by first | exact (TXG.m_ tz1 tx cq1 (by omega) (by omega) (by omega) xxM9).ev | exact False.elim (by omega))
    · refine g_aload_n (pc' := 41) 0 dX10_evening_40 rfl rfl ?_
      refine g_bipush (pc' := 43) (v := 59) dX10_evening_41 rfl (by decide) ?_
      refine g_callVip (pc' := 46) (As := [vi 59]) (b := 97) (S := []) dX10_evening_43 rfl m_X10_221 w_X10_isSign (c_X10_isSign_x X M1 ic1 59 (by decide)) rfl ⟨_, _, _, rfl, rfl, rfl⟩ (by decide) (by decide) rfl (Nat.le_of_ble_eq_true rfl) (fun z11 q10 => ?_)
      refine g_if_eq (pc' := 49) (tgt := 60) ⟨by omega, by omega⟩ dX10_evening_46 rfl rfl (fun c12 => ?_) (fun c12 => ?_)
      · replace q10 := q10.resolve_left (fun h => absurd (c12.symm.trans h.1) (by decide))
        refine g_aload_n (pc' := 61) 0 dX10_evening_60 rfl rfl ?_
        refine g_getI (pc' := 64) dX10_evening_61 rfl f_X10_154 rfl rfl (fun v13 ev13 rv13 => ?_)
        obtain rfl : v2 = v13 := ev2.trans ev13.symm
        refine g_if_ne (pc' := 67) (tgt := 79) rv2 dX10_evening_64 rfl rfl (fun c14 => ?_) (fun c14 => ?_)
        · refine g_sub [0] rfl ?_
          exact j_X10_evening_x_79 X M hi K W S E m hz M1 ic1 fr1 q99_0 q99_1 q99_2 q99_3 q100_0 q100_1 q100_2 q100_3 q100_49 q100_50 q100_51 q100_52 q103_0 q103_1 q97_10 q97_44 cb1 (by omega) c1 (M1 97 17) rfl (by first | exact (TXG.b tx cq1 (by omega)).ev | exact (TXG.e tz1 tx cq1 (by omega) (by omega)).ev | exact False.elim (by omega))
        · refine g_aload_n (pc' := 68) 0 dX10_evening_67 rfl rfl ?_
          refine g_getI (pc' := 71) dX10_evening_68 rfl f_X10_174 rfl rfl (fun v15 ev15 rv15 => ?_)
          refine g_if_eq (pc' := 74) (tgt := 79) rv15 dX10_evening_71 rfl rfl (fun c16 => ?_) (fun c16 => ?_)
          · refine g_sub [0] rfl ?_
            exact j_X10_evening_x_79 X M hi K W S E m hz M1 ic1 fr1 q99_0 q99_1 q99_2 q99_3 q100_0 q100_1 q100_2 q100_3 q100_49 q100_50 q100_51 q100_52 q103_0 q103_1 q97_10 q97_44 cb1 (by omega) c1 (M1 97 17) rfl (by first | exact (TXG.b tx cq1 (by omega)).ev | exact (TXG.e tz1 tx cq1 (by omega) (by omega)).ev | exact False.elim (by omega))
          · refine g_aload_n (pc' := 75) 0 dX10_evening_74 rfl rfl ?_
            refine g_iconst (pc' := 76) dX10_evening_75 rfl ?_
            refine g_callVv (pc' := 79) (As := [vi 0]) (b := 97) (S := []) dX10_evening_76 rfl m_X10_187 w_X10_must (c_X10_must_x X M1 ic1 0 (by decide) tk1) rfl ⟨_, _, _, rfl, rfl, rfl⟩ (by decide) (by decide) rfl (Nat.le_of_ble_eq_true rfl) (fun M18 q17 => ?_)
            obtain ⟨iM18, fM180, eM18_97_12, eM18_97_19, eM18_97_21, eM18_97_24, eM18_97_27, eM18_97_28, eM18_97_10, eM18_97_44, pM18⟩ := q17
            have fM18 : Fr (fun c => c = 97 ∨ c = 98 ∨ c = 101 ∨ c = 104 ∨ c = 105 ∨ c = 107 ∨ c = 108 ∨ c = 109 ∨ c = 110 ∨ c = 111 ∨ c = 112) M M18 := Fr.tr fr1 fM180 fi_56
            have q99_0_M18 : (M18 99 0 = M 99 0) := (congrFun (fM180 99 (by first | decide | omega | (dsimp only; omega))) 0).trans q99_0
            have q99_1_M18 : (M18 99 1 = M 99 1) := (congrFun (fM180 99 (by first | decide | omega | (dsimp only; omega))) 1).trans q99_1
            have q99_2_M18 : (M18 99 2 = M 99 2) := (congrFun (fM180 99 (by first | decide | omega | (dsimp only; omega))) 2).trans q99_2
            have q99_3_M18 : (M18 99 3 = M 99 3) := (congrFun (fM180 99 (by first | decide | omega | (dsimp only; omega))) 3).trans q99_3
            have q100_0_M18 : id (M18 100 0 = M 100 0) := (congrFun (fM180 100 (by first | decide | omega | (dsimp only; omega))) 0).trans q100_0
            have q100_1_M18 : id (M18 100 1 = M 100 1) := (congrFun (fM180 100 (by first | decide | omega | (dsimp only; omega))) 1).trans q100_1
            have q100_2_M18 : id (M18 100 2 = M 100 2) := (congrFun (fM180 100 (by first | decide | omega | (dsimp only; omega))) 2).trans q100_2
            have q100_3_M18 : id (M18 100 3 = M 100 3) := (congrFun (fM180 100 (by first | decide | omega | (dsimp only; omega))) 3).trans q100_3
            have q100_49_M18 : id (M18 100 49 = M 100 49) := (congrFun (fM180 100 (by first | decide | omega | (dsimp only; omega))) 49).trans q100_49
            have q100_50_M18 : id (M18 100 50 = M 100 50) := (congrFun (fM180 100 (by first | decide | omega | (dsimp only; omega))) 50).trans q100_50
            have q100_51_M18 : id (M18 100 51 = M 100 51) := (congrFun (fM180 100 (by first | decide | omega | (dsimp only; omega))) 51).trans q100_51
            have q100_52_M18 : id (M18 100 52 = M 100 52) := (congrFun (fM180 100 (by first | decide | omega | (dsimp only; omega))) 52).trans q100_52
            have q103_0_M18 : id (M18 103 0 = M 103 0) := (congrFun (fM180 103 (by first | decide | omega | (dsimp only; omega))) 0).trans q103_0
            have q103_1_M18 : id (M18 103 1 = M 103 1) := (congrFun (fM180 103 (by first | decide | omega | (dsimp only; omega))) 1).trans q103_1
            have q97_10_M18 : (M18 97 10 = M 97 10) := eM18_97_10.trans q97_10
            have q97_44_M18 : (M18 97 44 = M 97 44) := eM18_97_44.trans q97_44
            have wM18_97_12 : M18 97 12 = M1 97 12 := eM18_97_12
            have wM18_97_19 : M18 97 19 = M1 97 19 := eM18_97_19
            have wM18_97_21 : M18 97 21 = M1 97 21 := eM18_97_21
            have wM18_97_24 : M18 97 24 = M1 97 24 := eM18_97_24
            have tzM18 : TZM M18 K W S E m := TZM.eq tz1 (fM180 106 (by decide)) eM18_97_12
            have c1M18 : M18 101 = M 101 := (fM180 101 (by decide)).trans c1
            obtain ⟨xxM18, aM18p, bM18p, cM18p, kM18p⟩ := pM18
            have tkM18 : TK M18 := kM18p
            clear kM18p
            have tbM18 := tkM18.b
            have cbM18 : CB M18 := CB.nx cb1 (fM180 107 (by decide)) (fM180 108 (by decide)) (fM180 109 (by decide)) (by omega) (by omega) (by omega)
            refine g_sub [0] rfl ?_
            exact j_X10_evening_x_79 X M hi K W S E m hz M18 iM18 fM18 q99_0_M18 q99_1_M18 q99_2_M18 q99_3_M18 q100_0_M18 q100_1_M18 q100_2_M18 q100_3_M18 q100_49_M18 q100_50_M18 q100_51_M18 q100_52_M18 q103_0_M18 q103_1_M18 q97_10_M18 q97_44_M18 cbM18 (by omega) c1M18 (M18 97 17) rfl (by first | exact (TXG.m_ tz1 tx cq1 (by omega) (by omega) (by omega) xxM18).ev | exact False.elim (by omega))
      · replace q10 := q10.resolve_right (fun h => c12 h.1)
        obtain ⟨cn0, cm0, jj, ll, ja, jb, jc⟩ := cq1.1 (by omega)
        have aw0 := ja.w tz1
        refine g_aload_n (pc' := 50) 0 dX10_evening_49 rfl rfl ?_
        refine g_callVv (pc' := 53) (As := []) (b := 97) (S := []) dX10_evening_50 rfl m_X10_158 w_X10_next (c_X10_next_x X M1 ic1 (by omega)) rfl ⟨_, _, _, rfl, rfl, rfl⟩ (by decide) (by decide) rfl (Nat.le_of_ble_eq_true rfl) (fun M20 q19 => ?_)
        obtain ⟨iM20, fM200, eM20_97_12, eM20_97_19, eM20_97_21, eM20_97_24, eM20_97_27, eM20_97_28, eM20_97_10, eM20_97_44, eM20_97_18, eM20_97_17, pM20⟩ := q19
        have fM20 : Fr (fun c => c = 97 ∨ c = 98 ∨ c = 101 ∨ c = 104 ∨ c = 105 ∨ c = 107 ∨ c = 108 ∨ c = 109 ∨ c = 110 ∨ c = 111 ∨ c = 112) M M20 := Fr.tr fr1 fM200 fi_56
        have q99_0_M20 : (M20 99 0 = M 99 0) := (congrFun (fM200 99 (by first | decide | omega | (dsimp only; omega))) 0).trans q99_0
        have q99_1_M20 : (M20 99 1 = M 99 1) := (congrFun (fM200 99 (by first | decide | omega | (dsimp only; omega))) 1).trans q99_1
        have q99_2_M20 : (M20 99 2 = M 99 2) := (congrFun (fM200 99 (by first | decide | omega | (dsimp only; omega))) 2).trans q99_2
        have q99_3_M20 : (M20 99 3 = M 99 3) := (congrFun (fM200 99 (by first | decide | omega | (dsimp only; omega))) 3).trans q99_3
        have q100_0_M20 : id (M20 100 0 = M 100 0) := (congrFun (fM200 100 (by first | decide | omega | (dsimp only; omega))) 0).trans q100_0
        have q100_1_M20 : id (M20 100 1 = M 100 1) := (congrFun (fM200 100 (by first | decide | omega | (dsimp only; omega))) 1).trans q100_1
        have q100_2_M20 : id (M20 100 2 = M 100 2) := (congrFun (fM200 100 (by first | decide | omega | (dsimp only; omega))) 2).trans q100_2
        have q100_3_M20 : id (M20 100 3 = M 100 3) := (congrFun (fM200 100 (by first | decide | omega | (dsimp only; omega))) 3).trans q100_3
        have q100_49_M20 : id (M20 100 49 = M 100 49) := (congrFun (fM200 100 (by first | decide | omega | (dsimp only; omega))) 49).trans q100_49
        have q100_50_M20 : id (M20 100 50 = M 100 50) := (congrFun (fM200 100 (by first | decide | omega | (dsimp only; omega))) 50).trans q100_50
        have q100_51_M20 : id (M20 100 51 = M 100 51) := (congrFun (fM200 100 (by first | decide | omega | (dsimp only; omega))) 51).trans q100_51
        have q100_52_M20 : id (M20 100 52 = M 100 52) := (congrFun (fM200 100 (by first | decide | omega | (dsimp only; omega))) 52).trans q100_52
        have q103_0_M20 : id (M20 103 0 = M 103 0) := (congrFun (fM200 103 (by first | decide | omega | (dsimp only; omega))) 0).trans q103_0
        have q103_1_M20 : id (M20 103 1 = M 103 1) := (congrFun (fM200 103 (by first | decide | omega | (dsimp only; omega))) 1).trans q103_1
        have q97_10_M20 : (M20 97 10 = M 97 10) := eM20_97_10.trans q97_10
        have q97_44_M20 : (M20 97 44 = M 97 44) := eM20_97_44.trans q97_44
        have wM20_97_12 : M20 97 12 = M1 97 12 := eM20_97_12
        have wM20_97_17 : M20 97 17 = M1 97 17 := eM20_97_17
        have wM20_97_18 : M20 97 18 = M1 97 18 := eM20_97_18
        have wM20_97_19 : M20 97 19 = M1 97 19 := eM20_97_19
        have wM20_97_21 : M20 97 21 = M1 97 21 := eM20_97_21
        have wM20_97_24 : M20 97 24 = M1 97 24 := eM20_97_24
        have tzM20 : TZM M20 K W S E m := TZM.eq tz1 (fM200 106 (by decide)) eM20_97_12
        have c1M20 : M20 101 = M 101 := (fM200 101 (by decide)).trans c1
        obtain ⟨xxM20, aM20p, kM20p⟩ := pM20
        have tkM20 : TK M20 := kM20p
        clear kM20p
        have tbM20 := tkM20.b
        have cbM20 : CB M20 := CB.nx cb1 (fM200 107 (by decide)) (fM200 108 (by decide)) (fM200 109 (by decide)) (by omega) (by omega) (by omega)
        have atM20 : AT K W S E m M20 (jj + 1) := AT.nx tz1 ja (by omega) xxM20 (by omega)
        refine g_aload_n (pc' := 54) 0 dX10_evening_53 rfl rfl ?_
        refine g_callVv (pc' := 57) (As := []) (b := 97) (S := []) dX10_evening_54 rfl m_X10_325 w_X10_readClause (c_X10_readClause_x X M20 iM20 tkM20 (by omega) (by omega) (by omega) (cbM20 (by omega)) K W S E m (jj + 1) ll tzM20 atM20 (by omega)) rfl ⟨_, _, _, rfl, rfl, rfl⟩ (by decide) (by decide) rfl (Nat.le_of_ble_eq_true rfl) (fun M22 q21 => ?_)
        obtain ⟨iM22, fM220, eM22_97_12, eM22_97_10, eM22_97_44, pM22⟩ := q21
        have fM22 : Fr (fun c => c = 97 ∨ c = 98 ∨ c = 101 ∨ c = 104 ∨ c = 105 ∨ c = 107 ∨ c = 108 ∨ c = 109 ∨ c = 110 ∨ c = 111 ∨ c = 112) M M22 := Fr.tr fM20 fM220 fi_57
        have q99_0_M22 : (M22 99 0 = M 99 0) := (congrFun (fM220 99 (by first | decide | omega | (dsimp only; omega))) 0).trans q99_0_M20
        have q99_1_M22 : (M22 99 1 = M 99 1) := (congrFun (fM220 99 (by first | decide | omega | (dsimp only; omega))) 1).trans q99_1_M20
        have q99_2_M22 : (M22 99 2 = M 99 2) := (congrFun (fM220 99 (by first | decide | omega | (dsimp only; omega))) 2).trans q99_2_M20
        have q99_3_M22 : (M22 99 3 = M 99 3) := (congrFun (fM220 99 (by first | decide | omega | (dsimp only; omega))) 3).trans q99_3_M20
        have q100_0_M22 : id (M22 100 0 = M 100 0) := (congrFun (fM220 100 (by first | decide | omega | (dsimp only; omega))) 0).trans q100_0_M20
        have q100_1_M22 : id (M22 100 1 = M 100 1) := (congrFun (fM220 100 (by first | decide | omega | (dsimp only; omega))) 1).trans q100_1_M20
        have q100_2_M22 : id (M22 100 2 = M 100 2) := (congrFun (fM220 100 (by first | decide | omega | (dsimp only; omega))) 2).trans q100_2_M20
        have q100_3_M22 : id (M22 100 3 = M 100 3) := (congrFun (fM220 100 (by first | decide | omega | (dsimp only; omega))) 3).trans q100_3_M20
        have q100_49_M22 : id (M22 100 49 = M 100 49) := (congrFun (fM220 100 (by first | decide | omega | (dsimp only; omega))) 49).trans q100_49_M20
        have q100_50_M22 : id (M22 100 50 = M 100 50) := (congrFun (fM220 100 (by first | decide | omega | (dsimp only; omega))) 50).trans q100_50_M20
        have q100_51_M22 : id (M22 100 51 = M 100 51) := (congrFun (fM220 100 (by first | decide | omega | (dsimp only; omega))) 51).trans q100_51_M20
        have q100_52_M22 : id (M22 100 52 = M 100 52) := (congrFun (fM220 100 (by first | decide | omega | (dsimp only; omega))) 52).trans q100_52_M20
        have q103_0_M22 : id (M22 103 0 = M 103 0) := (congrFun (fM220 103 (by first | decide | omega | (dsimp only; omega))) 0).trans q103_0_M20
        have q103_1_M22 : id (M22 103 1 = M 103 1) := (congrFun (fM220 103 (by first | decide | omega | (dsimp only; omega))) 1).trans q103_1_M20
        have q97_10_M22 : (M22 97 10 = M 97 10) := eM22_97_10.trans q97_10_M20
        have q97_44_M22 : (M22 97 44 = M 97 44) := eM22_97_44.trans q97_44_M20
        have wM22_97_12 : M22 97 12 = M20 97 12 := eM22_97_12
        have tzM22 : TZM M22 K W S E m := TZM.eq tzM20 (fM220 106 (by decide)) eM22_97_12
        have c1M22 : M22 101 = M 101 := (fM220 101 (by decide)).trans c1M20
        obtain ⟨cqM22, tkM22, naM22, nbM22, ncM22, cbM22⟩ := pM22
        have tbM22 := tkM22.b
        refine g_goto (tgt := 33) dX10_evening_57 rfl ?_
        refine g_sub [0] rfl ?_
        exact ih _ (by omega) M22 iM22 fM22 q99_0_M22 q99_1_M22 q99_2_M22 q99_3_M22 q100_0_M22 q100_1_M22 q100_2_M22 q100_3_M22 q100_49_M22 q100_50_M22 q100_51_M22 q100_52_M22 q103_0_M22 q103_1_M22 q97_10_M22 q97_44_M22 tkM22 (by omega) tzM22 cbM22 (by omega) c1M22 (M20 97 19) (jj + 1) ll (by omega) cqM22 (by
            rw [show M20 97 19 = nx + 1 by omega]
            exact TXG.g tx (by omega) jc (by omega)) rfl
set_option maxHeartbeats 4000000 in
set_option maxRecDepth 100000 in
theorem c_X10_evening_x (X : Cx) (M : Mm) (hi : IM M) (K W S E : Nat → Int) (m : Nat) (hz : TZM M K W S E m) : Con X 12 yX10_evening cX10_evening 4 (some .int) [vr X 97] M (Qi (fun r M1 => IM M1 ∧ Fr (fun c => c = 97 ∨ c = 98 ∨ c = 101 ∨ c = 104 ∨ c = 105 ∨ c = 107 ∨ c = 108 ∨ c = 109 ∨ c = 110 ∨ c = 111 ∨ c = 112) M M1 ∧ M1 99 0 = M 99 0 ∧ M1 99 1 = M 99 1 ∧ M1 99 2 = M 99 2 ∧ M1 99 3 = M 99 3 ∧ M1 100 0 = M 100 0 ∧ M1 100 1 = M 100 1 ∧ M1 100 2 = M 100 2 ∧ M1 100 3 = M 100 3 ∧ M1 100 49 = M 100 49 ∧ M1 100 50 = M 100 50 ∧ M1 100 51 = M 100 51 ∧ M1 100 52 = M 100 52 ∧ M1 103 0 = M 103 0 ∧ M1 103 1 = M 103 1 ∧ M1 97 10 = M 97 10 ∧ M1 97 44 = M 97 44 ∧ ((inI r ∧ M1 97 12 = 0) ∧ EVQ S (tXf K W 12 0 0) (M1 97 17)))) := by
  refine Con.ofG rfl (Nat.le_of_ble_eq_true rfl) ?_
  show G X 12 RX10 cX10_evening 4 (some .int) (Qi (fun r M1 => IM M1 ∧ Fr (fun c => c = 97 ∨ c = 98 ∨ c = 101 ∨ c = 104 ∨ c = 105 ∨ c = 107 ∨ c = 108 ∨ c = 109 ∨ c = 110 ∨ c = 111 ∨ c = 112) M M1 ∧ M1 99 0 = M 99 0 ∧ M1 99 1 = M 99 1 ∧ M1 99 2 = M 99 2 ∧ M1 99 3 = M 99 3 ∧ M1 100 0 = M 100 0 ∧ M1 100 1 = M 100 1 ∧ M1 100 2 = M 100 2 ∧ M1 100 3 = M 100 3 ∧ M1 100 49 = M 100 49 ∧ M1 100 50 = M 100 50 ∧ M1 100 51 = M 100 51 ∧ M1 100 52 = M 100 52 ∧ M1 103 0 = M 103 0 ∧ M1 103 1 = M 103 1 ∧ M1 97 10 = M 97 10 ∧ M1 97 44 = M 97 44 ∧ ((inI r ∧ M1 97 12 = 0) ∧ EVQ S (tXf K W 12 0 0) (M1 97 17)))) 0 [(0, vr X 97)] [] M
  have p0 := hi.1.1
  have p1 := hi.1.2.1
  have p2 := hi.1.2.2.1
  have p3 := hi.1.2.2.2.1
  have p12 := hi.2.2.2.1
  refine g_aload_n (pc' := 1) 0 dX10_evening_0 rfl rfl ?_
  refine g_iconst (pc' := 2) dX10_evening_1 rfl ?_
  refine g_putI (pc' := 5) dX10_evening_2 rfl p_X10_77 rfl rfl (by decide) (fun M2 hM2 => ?_)
  have iM2 : IM M2 := IM.wr hi hM2 (by unfold okv; first | decide | omega)
  have fM2 : Fr (fun c => c = 97 ∨ c = 98 ∨ c = 101 ∨ c = 104 ∨ c = 105 ∨ c = 107 ∨ c = 108 ∨ c = 109 ∨ c = 110 ∨ c = 111 ∨ c = 112) M M2 := Fr.wr Fr.rf hM2 (by first | decide | omega | (dsimp only; omega))
  have q99_0_M2 : (M2 99 0 = M 99 0) := (show M2 99 0 = M 99 0 by rw [hM2]; exact mu_ne _ _ (by first | decide | omega))
  have q99_1_M2 : (M2 99 1 = M 99 1) := (show M2 99 1 = M 99 1 by rw [hM2]; exact mu_ne _ _ (by first | decide | omega))
  have q99_2_M2 : (M2 99 2 = M 99 2) := (show M2 99 2 = M 99 2 by rw [hM2]; exact mu_ne _ _ (by first | decide | omega))
  have q99_3_M2 : (M2 99 3 = M 99 3) := (show M2 99 3 = M 99 3 by rw [hM2]; exact mu_ne _ _ (by first | decide | omega))
  have q100_0_M2 : id (M2 100 0 = M 100 0) := (show M2 100 0 = M 100 0 by rw [hM2]; exact mu_ne _ _ (by first | decide | omega))
  have q100_1_M2 : id (M2 100 1 = M 100 1) := (show M2 100 1 = M 100 1 by rw [hM2]; exact mu_ne _ _ (by first | decide | omega))
  have q100_2_M2 : id (M2 100 2 = M 100 2) := (show M2 100 2 = M 100 2 by rw [hM2]; exact mu_ne _ _ (by first | decide | omega))
  have q100_3_M2 : id (M2 100 3 = M 100 3) := (show M2 100 3 = M 100 3 by rw [hM2]; exact mu_ne _ _ (by first | decide | omega))
  have q100_49_M2 : id (M2 100 49 = M 100 49) := (show M2 100 49 = M 100 49 by rw [hM2]; exact mu_ne _ _ (by first | decide | omega))
  have q100_50_M2 : id (M2 100 50 = M 100 50) := (show M2 100 50 = M 100 50 by rw [hM2]; exact mu_ne _ _ (by first | decide | omega))
  have q100_51_M2 : id (M2 100 51 = M 100 51) := (show M2 100 51 = M 100 51 by rw [hM2]; exact mu_ne _ _ (by first | decide | omega))
  have q100_52_M2 : id (M2 100 52 = M 100 52) := (show M2 100 52 = M 100 52 by rw [hM2]; exact mu_ne _ _ (by first | decide | omega))
  have q103_0_M2 : id (M2 103 0 = M 103 0) := (show M2 103 0 = M 103 0 by rw [hM2]; exact mu_ne _ _ (by first | decide | omega))
  have q103_1_M2 : id (M2 103 1 = M 103 1) := (show M2 103 1 = M 103 1 by rw [hM2]; exact mu_ne _ _ (by first | decide | omega))
  have q97_10_M2 : (M2 97 10 = M 97 10) := (show M2 97 10 = M 97 10 by rw [hM2]; exact mu_ne _ _ (by first | decide | omega))
  have q97_44_M2 : (M2 97 44 = M 97 44) := (show M2 97 44 = M 97 44 by rw [hM2]; exact mu_ne _ _ (by first | decide | omega))
  have q97_12_M2 : (M2 97 12 = M 97 12) := (show M2 97 12 = M 97 12 by rw [hM2]; exact mu_ne _ _ (by first | decide | omega))
  have q97_17_M2 : (M2 97 17 = M 97 17) := (show M2 97 17 = M 97 17 by rw [hM2]; exact mu_ne _ _ (by first | decide | omega))
  have q97_33_M2 : (M2 97 33 = M 97 33) := (show M2 97 33 = M 97 33 by rw [hM2]; exact mu_ne _ _ (by first | decide | omega))
  have q97_1_M2 : (M2 97 1 = M 97 1) := (show M2 97 1 = M 97 1 by rw [hM2]; exact mu_ne _ _ (by first | decide | omega))
  have wM2_97_12 : M2 97 12 = M 97 12 := by rw [hM2]; exact mu_ne _ _ (by first | decide | omega)
  have wM2_97_13 : M2 97 13 = M 97 13 := by rw [hM2]; exact mu_ne _ _ (by first | decide | omega)
  have wM2_97_14 : M2 97 14 = M 97 14 := by rw [hM2]; exact mu_ne _ _ (by first | decide | omega)
  have wM2_97_15 : M2 97 15 = M 97 15 := by rw [hM2]; exact mu_ne _ _ (by first | decide | omega)
  have wM2_97_16 : M2 97 16 = M 97 16 := by rw [hM2]; exact mu_ne _ _ (by first | decide | omega)
  have wM2_97_17 : M2 97 17 = M 97 17 := by rw [hM2]; exact mu_ne _ _ (by first | decide | omega)
  have wM2_97_18 : M2 97 18 = M 97 18 := by rw [hM2]; exact mu_ne _ _ (by first | decide | omega)
  have wM2_97_19 : M2 97 19 = M 97 19 := by rw [hM2]; exact mu_ne _ _ (by first | decide | omega)
  have wM2_97_21 : M2 97 21 = M 97 21 := by rw [hM2]; exact mu_ne _ _ (by first | decide | omega)
  have wM2_97_24 : M2 97 24 = M 97 24 := by rw [hM2]; exact mu_ne _ _ (by first | decide | omega)
  have wM2_97_32 : M2 97 32 = M 97 32 := by rw [hM2]; exact mu_ne _ _ (by first | decide | omega)
  have xM2_97_0 : M2 97 0 = 0 := by rw [hM2]; exact mu_at _ _ _ _
  have c1M2 : M2 101 = M 101 := (show M2 101 = M 101 by rw [hM2, mu_cell _ _ (by decide)])
  have tzM2 : TZM M2 K W S E m := TZM.eq hz (by rw [hM2]; exact mu_cell _ _ (by decide)) (show M2 97 12 = M 97 12 by rw [hM2]; exact mu_ne _ _ (by first | decide | omega))
  refine g_aload_n (pc' := 6) 0 dX10_evening_5 rfl rfl ?_
  refine g_callVv (pc' := 9) (As := []) (b := 97) (S := []) dX10_evening_6 rfl m_X10_322 w_X10_begin (c_X10_begin_x X M2 iM2) rfl ⟨_, _, _, rfl, rfl, rfl⟩ (by decide) (by decide) rfl (Nat.le_of_ble_eq_true rfl) (fun M4 q3 => ?_)
  obtain ⟨iM4, fM40, eM4_97_12, eM4_97_19, eM4_97_21, eM4_97_24, eM4_97_27, eM4_97_28, eM4_97_10, eM4_97_44, pM4⟩ := q3
  have fM4 : Fr (fun c => c = 97 ∨ c = 98 ∨ c = 101 ∨ c = 104 ∨ c = 105 ∨ c = 107 ∨ c = 108 ∨ c = 109 ∨ c = 110 ∨ c = 111 ∨ c = 112) M M4 := Fr.tr fM2 fM40 fi_56
  have q99_0_M4 : (M4 99 0 = M 99 0) := (congrFun (fM40 99 (by first | decide | omega | (dsimp only; omega))) 0).trans q99_0_M2
  have q99_1_M4 : (M4 99 1 = M 99 1) := (congrFun (fM40 99 (by first | decide | omega | (dsimp only; omega))) 1).trans q99_1_M2
  have q99_2_M4 : (M4 99 2 = M 99 2) := (congrFun (fM40 99 (by first | decide | omega | (dsimp only; omega))) 2).trans q99_2_M2
  have q99_3_M4 : (M4 99 3 = M 99 3) := (congrFun (fM40 99 (by first | decide | omega | (dsimp only; omega))) 3).trans q99_3_M2
  have q100_0_M4 : id (M4 100 0 = M 100 0) := (congrFun (fM40 100 (by first | decide | omega | (dsimp only; omega))) 0).trans q100_0_M2
  have q100_1_M4 : id (M4 100 1 = M 100 1) := (congrFun (fM40 100 (by first | decide | omega | (dsimp only; omega))) 1).trans q100_1_M2
  have q100_2_M4 : id (M4 100 2 = M 100 2) := (congrFun (fM40 100 (by first | decide | omega | (dsimp only; omega))) 2).trans q100_2_M2
  have q100_3_M4 : id (M4 100 3 = M 100 3) := (congrFun (fM40 100 (by first | decide | omega | (dsimp only; omega))) 3).trans q100_3_M2
  have q100_49_M4 : id (M4 100 49 = M 100 49) := (congrFun (fM40 100 (by first | decide | omega | (dsimp only; omega))) 49).trans q100_49_M2
  have q100_50_M4 : id (M4 100 50 = M 100 50) := (congrFun (fM40 100 (by first | decide | omega | (dsimp only; omega))) 50).trans q100_50_M2
  have q100_51_M4 : id (M4 100 51 = M 100 51) := (congrFun (fM40 100 (by first | decide | omega | (dsimp only; omega))) 51).trans q100_51_M2
  have q100_52_M4 : id (M4 100 52 = M 100 52) := (congrFun (fM40 100 (by first | decide | omega | (dsimp only; omega))) 52).trans q100_52_M2
  have q103_0_M4 : id (M4 103 0 = M 103 0) := (congrFun (fM40 103 (by first | decide | omega | (dsimp only; omega))) 0).trans q103_0_M2
  have q103_1_M4 : id (M4 103 1 = M 103 1) := (congrFun (fM40 103 (by first | decide | omega | (dsimp only; omega))) 1).trans q103_1_M2
  have q97_10_M4 : (M4 97 10 = M 97 10) := eM4_97_10.trans q97_10_M2
  have q97_44_M4 : (M4 97 44 = M 97 44) := eM4_97_44.trans q97_44_M2
  have q97_12_M4 : (M4 97 12 = M 97 12) := eM4_97_12.trans q97_12_M2
  have wM4_97_12 : M4 97 12 = M2 97 12 := eM4_97_12
  have wM4_97_19 : M4 97 19 = M2 97 19 := eM4_97_19
  have wM4_97_21 : M4 97 21 = M2 97 21 := eM4_97_21
  have wM4_97_24 : M4 97 24 = M2 97 24 := eM4_97_24
  have tzM4 : TZM M4 K W S E m := TZM.eq tzM2 (fM40 106 (by decide)) eM4_97_12
  have c1M4 : M4 101 = M 101 := (fM40 101 (by decide)).trans c1M2
  obtain ⟨⟨b7M4, nqM4⟩, bdM4, kM4p⟩ := pM4
  have tkM4 : TK M4 := kM4p
  clear kM4p
  have tbM4 := tkM4.b
  have atM4 : AT K W S E m M4 0 := AT.first tzM2 nqM4 (by omega)
  refine g_aload_n (pc' := 10) 0 dX10_evening_9 rfl rfl ?_
  refine g_iconst (pc' := 11) dX10_evening_10 rfl ?_
  refine g_putI (pc' := 14) dX10_evening_11 rfl p_X10_284 rfl rfl (by decide) (fun M5 hM5 => ?_)
  have iM5 : IM M5 := IM.wr iM4 hM5 (by unfold okv; first | decide | omega)
  have fM5 : Fr (fun c => c = 97 ∨ c = 98 ∨ c = 101 ∨ c = 104 ∨ c = 105 ∨ c = 107 ∨ c = 108 ∨ c = 109 ∨ c = 110 ∨ c = 111 ∨ c = 112) M M5 := Fr.wr fM4 hM5 (by first | decide | omega | (dsimp only; omega))
  have q99_0_M5 : (M5 99 0 = M 99 0) := (show M5 99 0 = M4 99 0 by rw [hM5]; exact mu_ne _ _ (by first | decide | omega)).trans q99_0_M4
  have q99_1_M5 : (M5 99 1 = M 99 1) := (show M5 99 1 = M4 99 1 by rw [hM5]; exact mu_ne _ _ (by first | decide | omega)).trans q99_1_M4
  have q99_2_M5 : (M5 99 2 = M 99 2) := (show M5 99 2 = M4 99 2 by rw [hM5]; exact mu_ne _ _ (by first | decide | omega)).trans q99_2_M4
  have q99_3_M5 : (M5 99 3 = M 99 3) := (show M5 99 3 = M4 99 3 by rw [hM5]; exact mu_ne _ _ (by first | decide | omega)).trans q99_3_M4
  have q100_0_M5 : id (M5 100 0 = M 100 0) := (show M5 100 0 = M4 100 0 by rw [hM5]; exact mu_ne _ _ (by first | decide | omega)).trans q100_0_M4
  have q100_1_M5 : id (M5 100 1 = M 100 1) := (show M5 100 1 = M4 100 1 by rw [hM5]; exact mu_ne _ _ (by first | decide | omega)).trans q100_1_M4
  have q100_2_M5 : id (M5 100 2 = M 100 2) := (show M5 100 2 = M4 100 2 by rw [hM5]; exact mu_ne _ _ (by first | decide | omega)).trans q100_2_M4
  have q100_3_M5 : id (M5 100 3 = M 100 3) := (show M5 100 3 = M4 100 3 by rw [hM5]; exact mu_ne _ _ (by first | decide | omega)).trans q100_3_M4
  have q100_49_M5 : id (M5 100 49 = M 100 49) := (show M5 100 49 = M4 100 49 by rw [hM5]; exact mu_ne _ _ (by first | decide | omega)).trans q100_49_M4
  have q100_50_M5 : id (M5 100 50 = M 100 50) := (show M5 100 50 = M4 100 50 by rw [hM5]; exact mu_ne _ _ (by first | decide | omega)).trans q100_50_M4
  have q100_51_M5 : id (M5 100 51 = M 100 51) := (show M5 100 51 = M4 100 51 by rw [hM5]; exact mu_ne _ _ (by first | decide | omega)).trans q100_51_M4
  have q100_52_M5 : id (M5 100 52 = M 100 52) := (show M5 100 52 = M4 100 52 by rw [hM5]; exact mu_ne _ _ (by first | decide | omega)).trans q100_52_M4
  have q103_0_M5 : id (M5 103 0 = M 103 0) := (show M5 103 0 = M4 103 0 by rw [hM5]; exact mu_ne _ _ (by first | decide | omega)).trans q103_0_M4
  have q103_1_M5 : id (M5 103 1 = M 103 1) := (show M5 103 1 = M4 103 1 by rw [hM5]; exact mu_ne _ _ (by first | decide | omega)).trans q103_1_M4
  have q97_10_M5 : (M5 97 10 = M 97 10) := (show M5 97 10 = M4 97 10 by rw [hM5]; exact mu_ne _ _ (by first | decide | omega)).trans q97_10_M4
  have q97_44_M5 : (M5 97 44 = M 97 44) := (show M5 97 44 = M4 97 44 by rw [hM5]; exact mu_ne _ _ (by first | decide | omega)).trans q97_44_M4
  have q97_12_M5 : (M5 97 12 = M 97 12) := (show M5 97 12 = M4 97 12 by rw [hM5]; exact mu_ne _ _ (by first | decide | omega)).trans q97_12_M4
  have wM5_97_12 : M5 97 12 = M4 97 12 := by rw [hM5]; exact mu_ne _ _ (by first | decide | omega)
  have wM5_97_13 : M5 97 13 = M4 97 13 := by rw [hM5]; exact mu_ne _ _ (by first | decide | omega)
  have wM5_97_14 : M5 97 14 = M4 97 14 := by rw [hM5]; exact mu_ne _ _ (by first | decide | omega)
  have wM5_97_15 : M5 97 15 = M4 97 15 := by rw [hM5]; exact mu_ne _ _ (by first | decide | omega)
  have wM5_97_16 : M5 97 16 = M4 97 16 := by rw [hM5]; exact mu_ne _ _ (by first | decide | omega)
  have wM5_97_17 : M5 97 17 = M4 97 17 := by rw [hM5]; exact mu_ne _ _ (by first | decide | omega)
  have wM5_97_18 : M5 97 18 = M4 97 18 := by rw [hM5]; exact mu_ne _ _ (by first | decide | omega)
  have wM5_97_21 : M5 97 21 = M4 97 21 := by rw [hM5]; exact mu_ne _ _ (by first | decide | omega)
  have wM5_97_24 : M5 97 24 = M4 97 24 := by rw [hM5]; exact mu_ne _ _ (by first | decide | omega)
  have wM5_97_32 : M5 97 32 = M4 97 32 := by rw [hM5]; exact mu_ne _ _ (by first | decide | omega)
  have xM5_97_19 : M5 97 19 = 0 := by rw [hM5]; exact mu_at _ _ _ _
  have c1M5 : M5 101 = M 101 := (show M5 101 = M4 101 by rw [hM5, mu_cell _ _ (by decide)]).trans c1M4
  have tkM5 : TK M5 := TK.eq tkM4 (show M5 97 12 = M4 97 12 by rw [hM5]; exact mu_ne _ _ (by first | decide | omega)) (show M5 97 13 = M4 97 13 by rw [hM5]; exact mu_ne _ _ (by first | decide | omega)) (show M5 97 14 = M4 97 14 by rw [hM5]; exact mu_ne _ _ (by first | decide | omega)) (show M5 97 15 = M4 97 15 by rw [hM5]; exact mu_ne _ _ (by first | decide | omega)) (show M5 97 16 = M4 97 16 by rw [hM5]; exact mu_ne _ _ (by first | decide | omega))
  have tzM5 : TZM M5 K W S E m := TZM.eq tzM4 (by rw [hM5]; exact mu_cell _ _ (by decide)) (show M5 97 12 = M4 97 12 by rw [hM5]; exact mu_ne _ _ (by first | decide | omega))
  have atM5 : AT K W S E m M5 0 := AT.eq atM4 (by omega) (by omega) (by omega) (by omega) (by omega)
  refine g_aload_n (pc' := 15) 0 dX10_evening_14 rfl rfl ?_
  refine g_iconst (pc' := 16) dX10_evening_15 rfl ?_
  refine g_putI (pc' := 19) dX10_evening_16 rfl p_X10_191 rfl rfl (by decide) (fun M6 hM6 => ?_)
  have iM6 : IM M6 := IM.wr iM5 hM6 (by unfold okv; first | decide | omega)
  have fM6 : Fr (fun c => c = 97 ∨ c = 98 ∨ c = 101 ∨ c = 104 ∨ c = 105 ∨ c = 107 ∨ c = 108 ∨ c = 109 ∨ c = 110 ∨ c = 111 ∨ c = 112) M M6 := Fr.wr fM5 hM6 (by first | decide | omega | (dsimp only; omega))
  have q99_0_M6 : (M6 99 0 = M 99 0) := (show M6 99 0 = M5 99 0 by rw [hM6]; exact mu_ne _ _ (by first | decide | omega)).trans q99_0_M5
  have q99_1_M6 : (M6 99 1 = M 99 1) := (show M6 99 1 = M5 99 1 by rw [hM6]; exact mu_ne _ _ (by first | decide | omega)).trans q99_1_M5
  have q99_2_M6 : (M6 99 2 = M 99 2) := (show M6 99 2 = M5 99 2 by rw [hM6]; exact mu_ne _ _ (by first | decide | omega)).trans q99_2_M5
  have q99_3_M6 : (M6 99 3 = M 99 3) := (show M6 99 3 = M5 99 3 by rw [hM6]; exact mu_ne _ _ (by first | decide | omega)).trans q99_3_M5
  have q100_0_M6 : id (M6 100 0 = M 100 0) := (show M6 100 0 = M5 100 0 by rw [hM6]; exact mu_ne _ _ (by first | decide | omega)).trans q100_0_M5
  have q100_1_M6 : id (M6 100 1 = M 100 1) := (show M6 100 1 = M5 100 1 by rw [hM6]; exact mu_ne _ _ (by first | decide | omega)).trans q100_1_M5
  have q100_2_M6 : id (M6 100 2 = M 100 2) := (show M6 100 2 = M5 100 2 by rw [hM6]; exact mu_ne _ _ (by first | decide | omega)).trans q100_2_M5
  have q100_3_M6 : id (M6 100 3 = M 100 3) := (show M6 100 3 = M5 100 3 by rw [hM6]; exact mu_ne _ _ (by first | decide | omega)).trans q100_3_M5
  have q100_49_M6 : id (M6 100 49 = M 100 49) := (show M6 100 49 = M5 100 49 by rw [hM6]; exact mu_ne _ _ (by first | decide | omega)).trans q100_49_M5
  have q100_50_M6 : id (M6 100 50 = M 100 50) := (show M6 100 50 = M5 100 50 by rw [hM6]; exact mu_ne _ _ (by first | decide | omega)).trans q100_50_M5
  have q100_51_M6 : id (M6 100 51 = M 100 51) := (show M6 100 51 = M5 100 51 by rw [hM6]; exact mu_ne _ _ (by first | decide | omega)).trans q100_51_M5
  have q100_52_M6 : id (M6 100 52 = M 100 52) := (show M6 100 52 = M5 100 52 by rw [hM6]; exact mu_ne _ _ (by first | decide | omega)).trans q100_52_M5
  have q103_0_M6 : id (M6 103 0 = M 103 0) := (show M6 103 0 = M5 103 0 by rw [hM6]; exact mu_ne _ _ (by first | decide | omega)).trans q103_0_M5
  have q103_1_M6 : id (M6 103 1 = M 103 1) := (show M6 103 1 = M5 103 1 by rw [hM6]; exact mu_ne _ _ (by first | decide | omega)).trans q103_1_M5
  have q97_10_M6 : (M6 97 10 = M 97 10) := (show M6 97 10 = M5 97 10 by rw [hM6]; exact mu_ne _ _ (by first | decide | omega)).trans q97_10_M5
  have q97_44_M6 : (M6 97 44 = M 97 44) := (show M6 97 44 = M5 97 44 by rw [hM6]; exact mu_ne _ _ (by first | decide | omega)).trans q97_44_M5
  have q97_12_M6 : (M6 97 12 = M 97 12) := (show M6 97 12 = M5 97 12 by rw [hM6]; exact mu_ne _ _ (by first | decide | omega)).trans q97_12_M5
  have wM6_97_12 : M6 97 12 = M5 97 12 := by rw [hM6]; exact mu_ne _ _ (by first | decide | omega)
  have wM6_97_13 : M6 97 13 = M5 97 13 := by rw [hM6]; exact mu_ne _ _ (by first | decide | omega)
  have wM6_97_14 : M6 97 14 = M5 97 14 := by rw [hM6]; exact mu_ne _ _ (by first | decide | omega)
  have wM6_97_15 : M6 97 15 = M5 97 15 := by rw [hM6]; exact mu_ne _ _ (by first | decide | omega)
  have wM6_97_16 : M6 97 16 = M5 97 16 := by rw [hM6]; exact mu_ne _ _ (by first | decide | omega)
  have wM6_97_17 : M6 97 17 = M5 97 17 := by rw [hM6]; exact mu_ne _ _ (by first | decide | omega)
  have wM6_97_18 : M6 97 18 = M5 97 18 := by rw [hM6]; exact mu_ne _ _ (by first | decide | omega)
  have wM6_97_19 : M6 97 19 = M5 97 19 := by rw [hM6]; exact mu_ne _ _ (by first | decide | omega)
  have wM6_97_24 : M6 97 24 = M5 97 24 := by rw [hM6]; exact mu_ne _ _ (by first | decide | omega)
  have wM6_97_32 : M6 97 32 = M5 97 32 := by rw [hM6]; exact mu_ne _ _ (by first | decide | omega)
  have xM6_97_19 : M6 97 19 = 0 := (show M6 97 19 = M5 97 19 by rw [hM6]; exact mu_ne _ _ (by first | decide | omega)).trans xM5_97_19
  have xM6_97_21 : M6 97 21 = 0 := by rw [hM6]; exact mu_at _ _ _ _
  have c1M6 : M6 101 = M 101 := (show M6 101 = M5 101 by rw [hM6, mu_cell _ _ (by decide)]).trans c1M5
  have tkM6 : TK M6 := TK.eq tkM5 (show M6 97 12 = M5 97 12 by rw [hM6]; exact mu_ne _ _ (by first | decide | omega)) (show M6 97 13 = M5 97 13 by rw [hM6]; exact mu_ne _ _ (by first | decide | omega)) (show M6 97 14 = M5 97 14 by rw [hM6]; exact mu_ne _ _ (by first | decide | omega)) (show M6 97 15 = M5 97 15 by rw [hM6]; exact mu_ne _ _ (by first | decide | omega)) (show M6 97 16 = M5 97 16 by rw [hM6]; exact mu_ne _ _ (by first | decide | omega))
  have tzM6 : TZM M6 K W S E m := TZM.eq tzM5 (by rw [hM6]; exact mu_cell _ _ (by decide)) (show M6 97 12 = M5 97 12 by rw [hM6]; exact mu_ne _ _ (by first | decide | omega))
  have atM6 : AT K W S E m M6 0 := AT.eq atM5 (by omega) (by omega) (by omega) (by omega) (by omega)
  refine g_aload_n (pc' := 20) 0 dX10_evening_19 rfl rfl ?_
  refine g_iconst (pc' := 21) dX10_evening_20 rfl ?_
  refine g_putI (pc' := 24) dX10_evening_21 rfl p_X10_218 rfl rfl (by decide) (fun M7 hM7 => ?_)
  have iM7 : IM M7 := IM.wr iM6 hM7 (by unfold okv; first | decide | omega)
  have fM7 : Fr (fun c => c = 97 ∨ c = 98 ∨ c = 101 ∨ c = 104 ∨ c = 105 ∨ c = 107 ∨ c = 108 ∨ c = 109 ∨ c = 110 ∨ c = 111 ∨ c = 112) M M7 := Fr.wr fM6 hM7 (by first | decide | omega | (dsimp only; omega))
  have q99_0_M7 : (M7 99 0 = M 99 0) := (show M7 99 0 = M6 99 0 by rw [hM7]; exact mu_ne _ _ (by first | decide | omega)).trans q99_0_M6
  have q99_1_M7 : (M7 99 1 = M 99 1) := (show M7 99 1 = M6 99 1 by rw [hM7]; exact mu_ne _ _ (by first | decide | omega)).trans q99_1_M6
  have q99_2_M7 : (M7 99 2 = M 99 2) := (show M7 99 2 = M6 99 2 by rw [hM7]; exact mu_ne _ _ (by first | decide | omega)).trans q99_2_M6
  have q99_3_M7 : (M7 99 3 = M 99 3) := (show M7 99 3 = M6 99 3 by rw [hM7]; exact mu_ne _ _ (by first | decide | omega)).trans q99_3_M6
  have q100_0_M7 : id (M7 100 0 = M 100 0) := (show M7 100 0 = M6 100 0 by rw [hM7]; exact mu_ne _ _ (by first | decide | omega)).trans q100_0_M6
  have q100_1_M7 : id (M7 100 1 = M 100 1) := (show M7 100 1 = M6 100 1 by rw [hM7]; exact mu_ne _ _ (by first | decide | omega)).trans q100_1_M6
  have q100_2_M7 : id (M7 100 2 = M 100 2) := (show M7 100 2 = M6 100 2 by rw [hM7]; exact mu_ne _ _ (by first | decide | omega)).trans q100_2_M6
  have q100_3_M7 : id (M7 100 3 = M 100 3) := (show M7 100 3 = M6 100 3 by rw [hM7]; exact mu_ne _ _ (by first | decide | omega)).trans q100_3_M6
  have q100_49_M7 : id (M7 100 49 = M 100 49) := (show M7 100 49 = M6 100 49 by rw [hM7]; exact mu_ne _ _ (by first | decide | omega)).trans q100_49_M6
  have q100_50_M7 : id (M7 100 50 = M 100 50) := (show M7 100 50 = M6 100 50 by rw [hM7]; exact mu_ne _ _ (by first | decide | omega)).trans q100_50_M6
  have q100_51_M7 : id (M7 100 51 = M 100 51) := (show M7 100 51 = M6 100 51 by rw [hM7]; exact mu_ne _ _ (by first | decide | omega)).trans q100_51_M6
  have q100_52_M7 : id (M7 100 52 = M 100 52) := (show M7 100 52 = M6 100 52 by rw [hM7]; exact mu_ne _ _ (by first | decide | omega)).trans q100_52_M6
  have q103_0_M7 : id (M7 103 0 = M 103 0) := (show M7 103 0 = M6 103 0 by rw [hM7]; exact mu_ne _ _ (by first | decide | omega)).trans q103_0_M6
  have q103_1_M7 : id (M7 103 1 = M 103 1) := (show M7 103 1 = M6 103 1 by rw [hM7]; exact mu_ne _ _ (by first | decide | omega)).trans q103_1_M6
  have q97_10_M7 : (M7 97 10 = M 97 10) := (show M7 97 10 = M6 97 10 by rw [hM7]; exact mu_ne _ _ (by first | decide | omega)).trans q97_10_M6
  have q97_44_M7 : (M7 97 44 = M 97 44) := (show M7 97 44 = M6 97 44 by rw [hM7]; exact mu_ne _ _ (by first | decide | omega)).trans q97_44_M6
  have q97_12_M7 : (M7 97 12 = M 97 12) := (show M7 97 12 = M6 97 12 by rw [hM7]; exact mu_ne _ _ (by first | decide | omega)).trans q97_12_M6
  have wM7_97_12 : M7 97 12 = M6 97 12 := by rw [hM7]; exact mu_ne _ _ (by first | decide | omega)
  have wM7_97_13 : M7 97 13 = M6 97 13 := by rw [hM7]; exact mu_ne _ _ (by first | decide | omega)
  have wM7_97_14 : M7 97 14 = M6 97 14 := by rw [hM7]; exact mu_ne _ _ (by first | decide | omega)
  have wM7_97_15 : M7 97 15 = M6 97 15 := by rw [hM7]; exact mu_ne _ _ (by first | decide | omega)
  have wM7_97_16 : M7 97 16 = M6 97 16 := by rw [hM7]; exact mu_ne _ _ (by first | decide | omega)
  have wM7_97_17 : M7 97 17 = M6 97 17 := by rw [hM7]; exact mu_ne _ _ (by first | decide | omega)
  have wM7_97_18 : M7 97 18 = M6 97 18 := by rw [hM7]; exact mu_ne _ _ (by first | decide | omega)
  have wM7_97_19 : M7 97 19 = M6 97 19 := by rw [hM7]; exact mu_ne _ _ (by first | decide | omega)
  have wM7_97_21 : M7 97 21 = M6 97 21 := by rw [hM7]; exact mu_ne _ _ (by first | decide | omega)
  have wM7_97_32 : M7 97 32 = M6 97 32 := by rw [hM7]; exact mu_ne _ _ (by first | decide | omega)
  have xM7_97_19 : M7 97 19 = 0 := (show M7 97 19 = M6 97 19 by rw [hM7]; exact mu_ne _ _ (by first | decide | omega)).trans xM6_97_19
  have xM7_97_21 : M7 97 21 = 0 := (show M7 97 21 = M6 97 21 by rw [hM7]; exact mu_ne _ _ (by first | decide | omega)).trans xM6_97_21
  have xM7_97_24 : M7 97 24 = 0 := by rw [hM7]; exact mu_at _ _ _ _
  have c1M7 : M7 101 = M 101 := (show M7 101 = M6 101 by rw [hM7, mu_cell _ _ (by decide)]).trans c1M6
  have tkM7 : TK M7 := TK.eq tkM6 (show M7 97 12 = M6 97 12 by rw [hM7]; exact mu_ne _ _ (by first | decide | omega)) (show M7 97 13 = M6 97 13 by rw [hM7]; exact mu_ne _ _ (by first | decide | omega)) (show M7 97 14 = M6 97 14 by rw [hM7]; exact mu_ne _ _ (by first | decide | omega)) (show M7 97 15 = M6 97 15 by rw [hM7]; exact mu_ne _ _ (by first | decide | omega)) (show M7 97 16 = M6 97 16 by rw [hM7]; exact mu_ne _ _ (by first | decide | omega))
  have tzM7 : TZM M7 K W S E m := TZM.eq tzM6 (by rw [hM7]; exact mu_cell _ _ (by decide)) (show M7 97 12 = M6 97 12 by rw [hM7]; exact mu_ne _ _ (by first | decide | omega))
  have atM7 : AT K W S E m M7 0 := AT.eq atM6 (by omega) (by omega) (by omega) (by omega) (by omega)
  refine g_aload_n (pc' := 25) 0 dX10_evening_24 rfl rfl ?_
  refine g_iconst (pc' := 26) dX10_evening_25 rfl ?_
  refine g_putI (pc' := 29) dX10_evening_26 rfl p_X10_61 rfl rfl (by decide) (fun M8 hM8 => ?_)
  have iM8 : IM M8 := IM.wr iM7 hM8 (by unfold okv; first | decide | omega)
  have fM8 : Fr (fun c => c = 97 ∨ c = 98 ∨ c = 101 ∨ c = 104 ∨ c = 105 ∨ c = 107 ∨ c = 108 ∨ c = 109 ∨ c = 110 ∨ c = 111 ∨ c = 112) M M8 := Fr.wr fM7 hM8 (by first | decide | omega | (dsimp only; omega))
  have q99_0_M8 : (M8 99 0 = M 99 0) := (show M8 99 0 = M7 99 0 by rw [hM8]; exact mu_ne _ _ (by first | decide | omega)).trans q99_0_M7
  have q99_1_M8 : (M8 99 1 = M 99 1) := (show M8 99 1 = M7 99 1 by rw [hM8]; exact mu_ne _ _ (by first | decide | omega)).trans q99_1_M7
  have q99_2_M8 : (M8 99 2 = M 99 2) := (show M8 99 2 = M7 99 2 by rw [hM8]; exact mu_ne _ _ (by first | decide | omega)).trans q99_2_M7
  have q99_3_M8 : (M8 99 3 = M 99 3) := (show M8 99 3 = M7 99 3 by rw [hM8]; exact mu_ne _ _ (by first | decide | omega)).trans q99_3_M7
  have q100_0_M8 : id (M8 100 0 = M 100 0) := (show M8 100 0 = M7 100 0 by rw [hM8]; exact mu_ne _ _ (by first | decide | omega)).trans q100_0_M7
  have q100_1_M8 : id (M8 100 1 = M 100 1) := (show M8 100 1 = M7 100 1 by rw [hM8]; exact mu_ne _ _ (by first | decide | omega)).trans q100_1_M7
  have q100_2_M8 : id (M8 100 2 = M 100 2) := (show M8 100 2 = M7 100 2 by rw [hM8]; exact mu_ne _ _ (by first | decide | omega)).trans q100_2_M7
  have q100_3_M8 : id (M8 100 3 = M 100 3) := (show M8 100 3 = M7 100 3 by rw [hM8]; exact mu_ne _ _ (by first | decide | omega)).trans q100_3_M7
  have q100_49_M8 : id (M8 100 49 = M 100 49) := (show M8 100 49 = M7 100 49 by rw [hM8]; exact mu_ne _ _ (by first | decide | omega)).trans q100_49_M7
  have q100_50_M8 : id (M8 100 50 = M 100 50) := (show M8 100 50 = M7 100 50 by rw [hM8]; exact mu_ne _ _ (by first | decide | omega)).trans q100_50_M7
  have q100_51_M8 : id (M8 100 51 = M 100 51) := (show M8 100 51 = M7 100 51 by rw [hM8]; exact mu_ne _ _ (by first | decide | omega)).trans q100_51_M7
  have q100_52_M8 : id (M8 100 52 = M 100 52) := (show M8 100 52 = M7 100 52 by rw [hM8]; exact mu_ne _ _ (by first | decide | omega)).trans q100_52_M7
  have q103_0_M8 : id (M8 103 0 = M 103 0) := (show M8 103 0 = M7 103 0 by rw [hM8]; exact mu_ne _ _ (by first | decide | omega)).trans q103_0_M7
  have q103_1_M8 : id (M8 103 1 = M 103 1) := (show M8 103 1 = M7 103 1 by rw [hM8]; exact mu_ne _ _ (by first | decide | omega)).trans q103_1_M7
  have q97_10_M8 : (M8 97 10 = M 97 10) := (show M8 97 10 = M7 97 10 by rw [hM8]; exact mu_ne _ _ (by first | decide | omega)).trans q97_10_M7
  have q97_44_M8 : (M8 97 44 = M 97 44) := (show M8 97 44 = M7 97 44 by rw [hM8]; exact mu_ne _ _ (by first | decide | omega)).trans q97_44_M7
  have q97_12_M8 : (M8 97 12 = M 97 12) := (show M8 97 12 = M7 97 12 by rw [hM8]; exact mu_ne _ _ (by first | decide | omega)).trans q97_12_M7
  have wM8_97_12 : M8 97 12 = M7 97 12 := by rw [hM8]; exact mu_ne _ _ (by first | decide | omega)
  have wM8_97_13 : M8 97 13 = M7 97 13 := by rw [hM8]; exact mu_ne _ _ (by first | decide | omega)
  have wM8_97_14 : M8 97 14 = M7 97 14 := by rw [hM8]; exact mu_ne _ _ (by first | decide | omega)
  have wM8_97_15 : M8 97 15 = M7 97 15 := by rw [hM8]; exact mu_ne _ _ (by first | decide | omega)
  have wM8_97_16 : M8 97 16 = M7 97 16 := by rw [hM8]; exact mu_ne _ _ (by first | decide | omega)
  have wM8_97_17 : M8 97 17 = M7 97 17 := by rw [hM8]; exact mu_ne _ _ (by first | decide | omega)
  have wM8_97_18 : M8 97 18 = M7 97 18 := by rw [hM8]; exact mu_ne _ _ (by first | decide | omega)
  have wM8_97_19 : M8 97 19 = M7 97 19 := by rw [hM8]; exact mu_ne _ _ (by first | decide | omega)
  have wM8_97_21 : M8 97 21 = M7 97 21 := by rw [hM8]; exact mu_ne _ _ (by first | decide | omega)
  have wM8_97_24 : M8 97 24 = M7 97 24 := by rw [hM8]; exact mu_ne _ _ (by first | decide | omega)
  have wM8_97_32 : M8 97 32 = M7 97 32 := by rw [hM8]; exact mu_ne _ _ (by first | decide | omega)
  have xM8_97_19 : M8 97 19 = 0 := (show M8 97 19 = M7 97 19 by rw [hM8]; exact mu_ne _ _ (by first | decide | omega)).trans xM7_97_19
  have xM8_97_21 : M8 97 21 = 0 := (show M8 97 21 = M7 97 21 by rw [hM8]; exact mu_ne _ _ (by first | decide | omega)).trans xM7_97_21
  have xM8_97_24 : M8 97 24 = 0 := (show M8 97 24 = M7 97 24 by rw [hM8]; exact mu_ne _ _ (by first | decide | omega)).trans xM7_97_24
  have xM8_97_33 : M8 97 33 = (-1) := by rw [hM8]; exact mu_at _ _ _ _
  have c1M8 : M8 101 = M 101 := (show M8 101 = M7 101 by rw [hM8, mu_cell _ _ (by decide)]).trans c1M7
  have tkM8 : TK M8 := TK.eq tkM7 (show M8 97 12 = M7 97 12 by rw [hM8]; exact mu_ne _ _ (by first | decide | omega)) (show M8 97 13 = M7 97 13 by rw [hM8]; exact mu_ne _ _ (by first | decide | omega)) (show M8 97 14 = M7 97 14 by rw [hM8]; exact mu_ne _ _ (by first | decide | omega)) (show M8 97 15 = M7 97 15 by rw [hM8]; exact mu_ne _ _ (by first | decide | omega)) (show M8 97 16 = M7 97 16 by rw [hM8]; exact mu_ne _ _ (by first | decide | omega))
  have tzM8 : TZM M8 K W S E m := TZM.eq tzM7 (by rw [hM8]; exact mu_cell _ _ (by decide)) (show M8 97 12 = M7 97 12 by rw [hM8]; exact mu_ne _ _ (by first | decide | omega))
  have atM8 : AT K W S E m M8 0 := AT.eq atM7 (by omega) (by omega) (by omega) (by omega) (by omega)
  refine g_aload_n (pc' := 30) 0 dX10_evening_29 rfl rfl ?_
  refine g_callVv (pc' := 33) (As := []) (b := 97) (S := []) dX10_evening_30 rfl m_X10_325 w_X10_readClause (c_X10_readClause_x X M8 iM8 tkM8 (by omega) (by omega) (by omega) (CLS.zero (by omega)) K W S E m 0 0 tzM8 atM8 (by omega)) rfl ⟨_, _, _, rfl, rfl, rfl⟩ (by decide) (by decide) rfl (Nat.le_of_ble_eq_true rfl) (fun M10 q9 => ?_)
  obtain ⟨iM10, fM100, eM10_97_12, eM10_97_10, eM10_97_44, pM10⟩ := q9
  have fM10 : Fr (fun c => c = 97 ∨ c = 98 ∨ c = 101 ∨ c = 104 ∨ c = 105 ∨ c = 107 ∨ c = 108 ∨ c = 109 ∨ c = 110 ∨ c = 111 ∨ c = 112) M M10 := Fr.tr fM8 fM100 fi_57
  have q99_0_M10 : (M10 99 0 = M 99 0) := (congrFun (fM100 99 (by first | decide | omega | (dsimp only; omega))) 0).trans q99_0_M8
  have q99_1_M10 : (M10 99 1 = M 99 1) := (congrFun (fM100 99 (by first | decide | omega | (dsimp only; omega))) 1).trans q99_1_M8
  have q99_2_M10 : (M10 99 2 = M 99 2) := (congrFun (fM100 99 (by first | decide | omega | (dsimp only; omega))) 2).trans q99_2_M8
  have q99_3_M10 : (M10 99 3 = M 99 3) := (congrFun (fM100 99 (by first | decide | omega | (dsimp only; omega))) 3).trans q99_3_M8
  have q100_0_M10 : id (M10 100 0 = M 100 0) := (congrFun (fM100 100 (by first | decide | omega | (dsimp only; omega))) 0).trans q100_0_M8
  have q100_1_M10 : id (M10 100 1 = M 100 1) := (congrFun (fM100 100 (by first | decide | omega | (dsimp only; omega))) 1).trans q100_1_M8
  have q100_2_M10 : id (M10 100 2 = M 100 2) := (congrFun (fM100 100 (by first | decide | omega | (dsimp only; omega))) 2).trans q100_2_M8
  have q100_3_M10 : id (M10 100 3 = M 100 3) := (congrFun (fM100 100 (by first | decide | omega | (dsimp only; omega))) 3).trans q100_3_M8
  have q100_49_M10 : id (M10 100 49 = M 100 49) := (congrFun (fM100 100 (by first | decide | omega | (dsimp only; omega))) 49).trans q100_49_M8
  have q100_50_M10 : id (M10 100 50 = M 100 50) := (congrFun (fM100 100 (by first | decide | omega | (dsimp only; omega))) 50).trans q100_50_M8
  have q100_51_M10 : id (M10 100 51 = M 100 51) := (congrFun (fM100 100 (by first | decide | omega | (dsimp only; omega))) 51).trans q100_51_M8
  have q100_52_M10 : id (M10 100 52 = M 100 52) := (congrFun (fM100 100 (by first | decide | omega | (dsimp only; omega))) 52).trans q100_52_M8
  have q103_0_M10 : id (M10 103 0 = M 103 0) := (congrFun (fM100 103 (by first | decide | omega | (dsimp only; omega))) 0).trans q103_0_M8
  have q103_1_M10 : id (M10 103 1 = M 103 1) := (congrFun (fM100 103 (by first | decide | omega | (dsimp only; omega))) 1).trans q103_1_M8
  have q97_10_M10 : (M10 97 10 = M 97 10) := eM10_97_10.trans q97_10_M8
  have q97_44_M10 : (M10 97 44 = M 97 44) := eM10_97_44.trans q97_44_M8
  have q97_12_M10 : (M10 97 12 = M 97 12) := eM10_97_12.trans q97_12_M8
  have wM10_97_12 : M10 97 12 = M8 97 12 := eM10_97_12
  have tzM10 : TZM M10 K W S E m := TZM.eq tzM8 (fM100 106 (by decide)) eM10_97_12
  have c1M10 : M10 101 = M 101 := (fM100 101 (by decide)).trans c1M8
  obtain ⟨cqM10, tkM10, naM10, nbM10, ncM10, cbM10⟩ := pM10
  have tbM10 := tkM10.b
  refine g_sub [0] rfl ?_
  exact l_X10_evening_x_33 X M hi K W S E m hz _ M10 iM10 fM10 q99_0_M10 q99_1_M10 q99_2_M10 q99_3_M10 q100_0_M10 q100_1_M10 q100_2_M10 q100_3_M10 q100_49_M10 q100_50_M10 q100_51_M10 q100_52_M10 q103_0_M10 q103_1_M10 q97_10_M10 q97_44_M10 tkM10 (by omega) tzM10 cbM10 (by omega) c1M10 (M8 97 19) 0 0 (by omega) cqM10 (by rw [show (12 - M8 97 19).toNat = 12 by omega]) rfl
set_option maxHeartbeats 4000000 in
set_option maxRecDepth 100000 in
theorem c_X9_evening_x (X : Cx) (M : Mm) (hi : IC M) (gb : ∀ j : Nat, (j : Int) < M 31 1 → 0 ≤ M 32 j ∧ M 32 j ≤ 255) : Con X 50 yX9_evening cX9_evening 3 (some .int) [vr X 0] M (Qi (fun r M1 => IC M1 ∧ Fr (fun c => (2 ≤ c ∧ c ≤ 6) ∨ (30 ≤ c ∧ c ≤ 59) ∨ c = 0 ∨ c = 96) M M1 ∧ M1 1 2 = M 1 2 ∧ M1 1 4 = M 1 4 ∧ M1 1 6 = M 1 6 ∧ M1 11 5 = M 11 5 ∧ M1 10 2 = M 10 2 ∧ M1 10 4 = M 10 4 ∧ M1 10 6 = M 10 6 ∧ M1 20 5 = M 20 5 ∧ M1 19 2 = M 19 2 ∧ M1 19 4 = M 19 4 ∧ M1 19 6 = M 19 6 ∧ M1 29 0 = M 29 0 ∧ M1 29 1 = M 29 1 ∧ M1 0 11 = M 0 11 ∧ ((inI r ∧ M1 31 1 = 0 ∧ M1 2 5 = M 2 5) ∧ FEQ (M 32) (M 31 1) (M1 0 12)))) := by
  refine Con.ofG rfl (Nat.le_of_ble_eq_true rfl) ?_
  show G X 50 RX9 cX9_evening 3 (some .int) (Qi (fun r M1 => IC M1 ∧ Fr (fun c => (2 ≤ c ∧ c ≤ 6) ∨ (30 ≤ c ∧ c ≤ 59) ∨ c = 0 ∨ c = 96) M M1 ∧ M1 1 2 = M 1 2 ∧ M1 1 4 = M 1 4 ∧ M1 1 6 = M 1 6 ∧ M1 11 5 = M 11 5 ∧ M1 10 2 = M 10 2 ∧ M1 10 4 = M 10 4 ∧ M1 10 6 = M 10 6 ∧ M1 20 5 = M 20 5 ∧ M1 19 2 = M 19 2 ∧ M1 19 4 = M 19 4 ∧ M1 19 6 = M 19 6 ∧ M1 29 0 = M 29 0 ∧ M1 29 1 = M 29 1 ∧ M1 0 11 = M 0 11 ∧ ((inI r ∧ M1 31 1 = 0 ∧ M1 2 5 = M 2 5) ∧ FEQ (M 32) (M 31 1) (M1 0 12)))) 0 [(0, vr X 0)] [] M
  refine g_aload_n (pc' := 1) 0 dX9_evening_0 rfl rfl ?_
  refine g_getR (pc' := 4) dX9_evening_1 rfl f_X9_27 rfl rfl ?_
  refine g_callVi (pc' := 7) (As := []) (b := 30) (S := []) dX9_evening_4 rfl m_X9_165 w_X2_readText (c_X2_readText_x X M hi gb) rfl ⟨_, _, _, rfl, rfl, rfl⟩ (by decide) (by decide) rfl (Nat.le_of_ble_eq_true rfl) (fun z2 M3 q1 => ?_)
  obtain ⟨iM3, fM30, eM3_31_1, pM3⟩ := q1
  have fM3 : Fr (fun c => (2 ≤ c ∧ c ≤ 6) ∨ (30 ≤ c ∧ c ≤ 59) ∨ c = 0 ∨ c = 96) M M3 := Fr.tr Fr.rf fM30 fi_64
  have q1_2_M3 : id (M3 1 2 = M 1 2) := (congrFun (fM30 1 (by first | decide | omega | (dsimp only; omega))) 2)
  have q1_4_M3 : id (M3 1 4 = M 1 4) := (congrFun (fM30 1 (by first | decide | omega | (dsimp only; omega))) 4)
  have q1_6_M3 : id (M3 1 6 = M 1 6) := (congrFun (fM30 1 (by first | decide | omega | (dsimp only; omega))) 6)
  have q11_5_M3 : id (M3 11 5 = M 11 5) := (congrFun (fM30 11 (by first | decide | omega | (dsimp only; omega))) 5)
  have q10_2_M3 : id (M3 10 2 = M 10 2) := (congrFun (fM30 10 (by first | decide | omega | (dsimp only; omega))) 2)
  have q10_4_M3 : id (M3 10 4 = M 10 4) := (congrFun (fM30 10 (by first | decide | omega | (dsimp only; omega))) 4)
  have q10_6_M3 : id (M3 10 6 = M 10 6) := (congrFun (fM30 10 (by first | decide | omega | (dsimp only; omega))) 6)
  have q20_5_M3 : id (M3 20 5 = M 20 5) := (congrFun (fM30 20 (by first | decide | omega | (dsimp only; omega))) 5)
  have q19_2_M3 : id (M3 19 2 = M 19 2) := (congrFun (fM30 19 (by first | decide | omega | (dsimp only; omega))) 2)
  have q19_4_M3 : id (M3 19 4 = M 19 4) := (congrFun (fM30 19 (by first | decide | omega | (dsimp only; omega))) 4)
  have q19_6_M3 : id (M3 19 6 = M 19 6) := (congrFun (fM30 19 (by first | decide | omega | (dsimp only; omega))) 6)
  have q29_0_M3 : id (M3 29 0 = M 29 0) := (congrFun (fM30 29 (by first | decide | omega | (dsimp only; omega))) 0)
  have q29_1_M3 : id (M3 29 1 = M 29 1) := (congrFun (fM30 29 (by first | decide | omega | (dsimp only; omega))) 1)
  have q0_11_M3 : id (M3 0 11 = M 0 11) := (congrFun (fM30 0 (by first | decide | omega | (dsimp only; omega))) 11)
  have q31_1_M3 : (M3 31 1 = M 31 1) := eM3_31_1
  have q2_5_M3 : (M3 2 5 = M 2 5) := (congrFun (fM30 2 (by first | decide | omega | (dsimp only; omega))) 5)
  have q0_12_M3 : (M3 0 12 = M 0 12) := (congrFun (fM30 0 (by first | decide | omega | (dsimp only; omega))) 12)
  have q0_13_M3 : (M3 0 13 = M 0 13) := (congrFun (fM30 0 (by first | decide | omega | (dsimp only; omega))) 13)
  have q0_10_M3 : (M3 0 10 = M 0 10) := (congrFun (fM30 0 (by first | decide | omega | (dsimp only; omega))) 10)
  have wM3_31_1 : M3 31 1 = M 31 1 := eM3_31_1
  have wM3_2_5 : M3 2 5 = M 2 5 := (congrFun (fM30 2 (by first | decide | omega | (dsimp only; omega))) 5)
  have wM3_0_12 : M3 0 12 = M 0 12 := (congrFun (fM30 0 (by first | decide | omega | (dsimp only; omega))) 12)
  have wM3_0_13 : M3 0 13 = M 0 13 := (congrFun (fM30 0 (by first | decide | omega | (dsimp only; omega))) 13)
  have wM3_0_10 : M3 0 10 = M 0 10 := (congrFun (fM30 0 (by first | decide | omega | (dsimp only; omega))) 10)
  obtain ⟨K, W, m, tsM3, tzM3, jj, j1, j2, j3⟩ := pM3
  have z01 : z2 = 0 ∨ z2 = 1 := by
    have y := tXf01 K W 12 0 0
    rw [j3] at y
    exact y
  refine g_istore_n (pc' := 8) (i := 1) (L' := [(1, vi z2), (0, vr X 0)]) dX9_evening_7 rfl rfl (by decide) rfl ?_
  refine g_aload_n (pc' := 9) 1 dX9_evening_8 rfl rfl ?_
  refine g_iload_n (pc' := 10) 0 dX9_evening_9 rfl rfl ?_
  refine g_if_eq (pc' := 13) (tgt := 17) ⟨by omega, by omega⟩ dX9_evening_10 rfl rfl (fun c4 => ?_) (fun c4 => ?_)
  · refine g_aload_n (pc' := 18) 1 dX9_evening_17 rfl rfl ?_
    refine g_getR (pc' := 21) dX9_evening_18 rfl f_X9_35 rfl rfl ?_
    refine g_callVip (pc' := 24) (As := []) (b := 31) (S := [vr X 0]) dX9_evening_21 rfl m_X9_169 w_X8_place (c_X8_place_x X M3 iM3 K W m jj tsM3 j1 j2) rfl ⟨_, _, _, rfl, rfl, rfl⟩ (by decide) (by decide) rfl (Nat.le_of_ble_eq_true rfl) (fun z6 q5 => ?_)
    have m4 := tsM3.m4
    have pb := iM3.2.2.1.2.2.2 jj (by omega)
    have pb1 := pb.1
    have pb2 := pb.2.1
    clear pb
    refine g_putI (pc' := 27) dX9_evening_24 rfl p_X9_68 rfl rfl ⟨by omega, by omega⟩ (fun M7 hM7 => ?_)
    have iM7 : IC M7 := IC.wr iM3 hM7 (by unfold okw isT; first | decide | omega)
    have fM7 : Fr (fun c => (2 ≤ c ∧ c ≤ 6) ∨ (30 ≤ c ∧ c ≤ 59) ∨ c = 0 ∨ c = 96) M M7 := Fr.wr fM3 hM7 (by first | decide | omega | (dsimp only; omega))
    have q1_2_M7 : id (M7 1 2 = M 1 2) := (show M7 1 2 = M3 1 2 by rw [hM7]; exact mu_ne _ _ (by first | decide | omega)).trans q1_2_M3
    have q1_4_M7 : id (M7 1 4 = M 1 4) := (show M7 1 4 = M3 1 4 by rw [hM7]; exact mu_ne _ _ (by first | decide | omega)).trans q1_4_M3
    have q1_6_M7 : id (M7 1 6 = M 1 6) := (show M7 1 6 = M3 1 6 by rw [hM7]; exact mu_ne _ _ (by first | decide | omega)).trans q1_6_M3
    have q11_5_M7 : id (M7 11 5 = M 11 5) := (show M7 11 5 = M3 11 5 by rw [hM7]; exact mu_ne _ _ (by first | decide | omega)).trans q11_5_M3
    have q10_2_M7 : id (M7 10 2 = M 10 2) := (show M7 10 2 = M3 10 2 by rw [hM7]; exact mu_ne _ _ (by first | decide | omega)).trans q10_2_M3
    have q10_4_M7 : id (M7 10 4 = M 10 4) := (show M7 10 4 = M3 10 4 by rw [hM7]; exact mu_ne _ _ (by first | decide | omega)).trans q10_4_M3
    have q10_6_M7 : id (M7 10 6 = M 10 6) := (show M7 10 6 = M3 10 6 by rw [hM7]; exact mu_ne _ _ (by first | decide | omega)).trans q10_6_M3
    have q20_5_M7 : id (M7 20 5 = M 20 5) := (show M7 20 5 = M3 20 5 by rw [hM7]; exact mu_ne _ _ (by first | decide | omega)).trans q20_5_M3
    have q19_2_M7 : id (M7 19 2 = M 19 2) := (show M7 19 2 = M3 19 2 by rw [hM7]; exact mu_ne _ _ (by first | decide | omega)).trans q19_2_M3
    have q19_4_M7 : id (M7 19 4 = M 19 4) := (show M7 19 4 = M3 19 4 by rw [hM7]; exact mu_ne _ _ (by first | decide | omega)).trans q19_4_M3
    have q19_6_M7 : id (M7 19 6 = M 19 6) := (show M7 19 6 = M3 19 6 by rw [hM7]; exact mu_ne _ _ (by first | decide | omega)).trans q19_6_M3
    have q29_0_M7 : id (M7 29 0 = M 29 0) := (show M7 29 0 = M3 29 0 by rw [hM7]; exact mu_ne _ _ (by first | decide | omega)).trans q29_0_M3
    have q29_1_M7 : id (M7 29 1 = M 29 1) := (show M7 29 1 = M3 29 1 by rw [hM7]; exact mu_ne _ _ (by first | decide | omega)).trans q29_1_M3
    have q0_11_M7 : id (M7 0 11 = M 0 11) := (show M7 0 11 = M3 0 11 by rw [hM7]; exact mu_ne _ _ (by first | decide | omega)).trans q0_11_M3
    have q31_1_M7 : (M7 31 1 = M 31 1) := (show M7 31 1 = M3 31 1 by rw [hM7]; exact mu_ne _ _ (by first | decide | omega)).trans q31_1_M3
    have q2_5_M7 : (M7 2 5 = M 2 5) := (show M7 2 5 = M3 2 5 by rw [hM7]; exact mu_ne _ _ (by first | decide | omega)).trans q2_5_M3
    have q0_13_M7 : (M7 0 13 = M 0 13) := (show M7 0 13 = M3 0 13 by rw [hM7]; exact mu_ne _ _ (by first | decide | omega)).trans q0_13_M3
    have q0_10_M7 : (M7 0 10 = M 0 10) := (show M7 0 10 = M3 0 10 by rw [hM7]; exact mu_ne _ _ (by first | decide | omega)).trans q0_10_M3
    have wM7_31_1 : M7 31 1 = M3 31 1 := by rw [hM7]; exact mu_ne _ _ (by first | decide | omega)
    have wM7_2_5 : M7 2 5 = M3 2 5 := by rw [hM7]; exact mu_ne _ _ (by first | decide | omega)
    have wM7_0_13 : M7 0 13 = M3 0 13 := by rw [hM7]; exact mu_ne _ _ (by first | decide | omega)
    have wM7_0_10 : M7 0 10 = M3 0 10 := by rw [hM7]; exact mu_ne _ _ (by first | decide | omega)
    have xM7_0_12 : M7 0 12 = z6 := by rw [hM7]; exact mu_at _ _ _ _
    have fe : FEQ (M 32) (M 31 1) z6 := ⟨K, W, M3 34, M3 35, m, tzM3, Or.inr ⟨by rw [j3]; show z2 = 0; omega, by rw [j3]; exact q5⟩⟩
    refine g_aload_n (pc' := 28) 1 dX9_evening_27 rfl rfl ?_
    refine g_getR (pc' := 31) dX9_evening_28 rfl f_X9_35 rfl rfl ?_
    refine g_iconst (pc' := 32) dX9_evening_31 rfl ?_
    refine g_putI (pc' := 35) dX9_evening_32 rfl p_X9_147 rfl rfl (by decide) (fun M8 hM8 => ?_)
    have iM8 : IC M8 := IC.wr iM7 hM8 (by unfold okw isT; first | decide | omega)
    have fM8 : Fr (fun c => (2 ≤ c ∧ c ≤ 6) ∨ (30 ≤ c ∧ c ≤ 59) ∨ c = 0 ∨ c = 96) M M8 := Fr.wr fM7 hM8 (by first | decide | omega | (dsimp only; omega))
    have q1_2_M8 : id (M8 1 2 = M 1 2) := (show M8 1 2 = M7 1 2 by rw [hM8]; exact mu_ne _ _ (by first | decide | omega)).trans q1_2_M7
    have q1_4_M8 : id (M8 1 4 = M 1 4) := (show M8 1 4 = M7 1 4 by rw [hM8]; exact mu_ne _ _ (by first | decide | omega)).trans q1_4_M7
    have q1_6_M8 : id (M8 1 6 = M 1 6) := (show M8 1 6 = M7 1 6 by rw [hM8]; exact mu_ne _ _ (by first | decide | omega)).trans q1_6_M7
    have q11_5_M8 : id (M8 11 5 = M 11 5) := (show M8 11 5 = M7 11 5 by rw [hM8]; exact mu_ne _ _ (by first | decide | omega)).trans q11_5_M7
    have q10_2_M8 : id (M8 10 2 = M 10 2) := (show M8 10 2 = M7 10 2 by rw [hM8]; exact mu_ne _ _ (by first | decide | omega)).trans q10_2_M7
    have q10_4_M8 : id (M8 10 4 = M 10 4) := (show M8 10 4 = M7 10 4 by rw [hM8]; exact mu_ne _ _ (by first | decide | omega)).trans q10_4_M7
    have q10_6_M8 : id (M8 10 6 = M 10 6) := (show M8 10 6 = M7 10 6 by rw [hM8]; exact mu_ne _ _ (by first | decide | omega)).trans q10_6_M7
    have q20_5_M8 : id (M8 20 5 = M 20 5) := (show M8 20 5 = M7 20 5 by rw [hM8]; exact mu_ne _ _ (by first | decide | omega)).trans q20_5_M7
    have q19_2_M8 : id (M8 19 2 = M 19 2) := (show M8 19 2 = M7 19 2 by rw [hM8]; exact mu_ne _ _ (by first | decide | omega)).trans q19_2_M7
    have q19_4_M8 : id (M8 19 4 = M 19 4) := (show M8 19 4 = M7 19 4 by rw [hM8]; exact mu_ne _ _ (by first | decide | omega)).trans q19_4_M7
    have q19_6_M8 : id (M8 19 6 = M 19 6) := (show M8 19 6 = M7 19 6 by rw [hM8]; exact mu_ne _ _ (by first | decide | omega)).trans q19_6_M7
    have q29_0_M8 : id (M8 29 0 = M 29 0) := (show M8 29 0 = M7 29 0 by rw [hM8]; exact mu_ne _ _ (by first | decide | omega)).trans q29_0_M7
    have q29_1_M8 : id (M8 29 1 = M 29 1) := (show M8 29 1 = M7 29 1 by rw [hM8]; exact mu_ne _ _ (by first | decide | omega)).trans q29_1_M7
    have q0_11_M8 : id (M8 0 11 = M 0 11) := (show M8 0 11 = M7 0 11 by rw [hM8]; exact mu_ne _ _ (by first | decide | omega)).trans q0_11_M7
    have q2_5_M8 : (M8 2 5 = M 2 5) := (show M8 2 5 = M7 2 5 by rw [hM8]; exact mu_ne _ _ (by first | decide | omega)).trans q2_5_M7
    have q0_13_M8 : (M8 0 13 = M 0 13) := (show M8 0 13 = M7 0 13 by rw [hM8]; exact mu_ne _ _ (by first | decide | omega)).trans q0_13_M7
    have q0_10_M8 : (M8 0 10 = M 0 10) := (show M8 0 10 = M7 0 10 by rw [hM8]; exact mu_ne _ _ (by first | decide | omega)).trans q0_10_M7
    have wM8_2_5 : M8 2 5 = M7 2 5 := by rw [hM8]; exact mu_ne _ _ (by first | decide | omega)
    have wM8_0_12 : M8 0 12 = M7 0 12 := by rw [hM8]; exact mu_ne _ _ (by first | decide | omega)
    have wM8_0_13 : M8 0 13 = M7 0 13 := by rw [hM8]; exact mu_ne _ _ (by first | decide | omega)
    have wM8_0_10 : M8 0 10 = M7 0 10 := by rw [hM8]; exact mu_ne _ _ (by first | decide | omega)
    have xM8_0_12 : M8 0 12 = z6 := (show M8 0 12 = M7 0 12 by rw [hM8]; exact mu_ne _ _ (by first | decide | omega)).trans xM7_0_12
    have xM8_31_1 : M8 31 1 = 0 := by rw [hM8]; exact mu_at _ _ _ _
    refine g_aload_n (pc' := 36) 1 dX9_evening_35 rfl rfl ?_
    refine g_iconst (pc' := 37) dX9_evening_36 rfl ?_
    refine g_putI (pc' := 40) dX9_evening_37 rfl p_X9_72 rfl rfl (by decide) (fun M9 hM9 => ?_)
    have iM9 : IC M9 := IC.wr iM8 hM9 (by unfold okw isT; first | decide | omega)
    have fM9 : Fr (fun c => (2 ≤ c ∧ c ≤ 6) ∨ (30 ≤ c ∧ c ≤ 59) ∨ c = 0 ∨ c = 96) M M9 := Fr.wr fM8 hM9 (by first | decide | omega | (dsimp only; omega))
    have q1_2_M9 : id (M9 1 2 = M 1 2) := (show M9 1 2 = M8 1 2 by rw [hM9]; exact mu_ne _ _ (by first | decide | omega)).trans q1_2_M8
    have q1_4_M9 : id (M9 1 4 = M 1 4) := (show M9 1 4 = M8 1 4 by rw [hM9]; exact mu_ne _ _ (by first | decide | omega)).trans q1_4_M8
    have q1_6_M9 : id (M9 1 6 = M 1 6) := (show M9 1 6 = M8 1 6 by rw [hM9]; exact mu_ne _ _ (by first | decide | omega)).trans q1_6_M8
    have q11_5_M9 : id (M9 11 5 = M 11 5) := (show M9 11 5 = M8 11 5 by rw [hM9]; exact mu_ne _ _ (by first | decide | omega)).trans q11_5_M8
    have q10_2_M9 : id (M9 10 2 = M 10 2) := (show M9 10 2 = M8 10 2 by rw [hM9]; exact mu_ne _ _ (by first | decide | omega)).trans q10_2_M8
    have q10_4_M9 : id (M9 10 4 = M 10 4) := (show M9 10 4 = M8 10 4 by rw [hM9]; exact mu_ne _ _ (by first | decide | omega)).trans q10_4_M8
    have q10_6_M9 : id (M9 10 6 = M 10 6) := (show M9 10 6 = M8 10 6 by rw [hM9]; exact mu_ne _ _ (by first | decide | omega)).trans q10_6_M8
    have q20_5_M9 : id (M9 20 5 = M 20 5) := (show M9 20 5 = M8 20 5 by rw [hM9]; exact mu_ne _ _ (by first | decide | omega)).trans q20_5_M8
    have q19_2_M9 : id (M9 19 2 = M 19 2) := (show M9 19 2 = M8 19 2 by rw [hM9]; exact mu_ne _ _ (by first | decide | omega)).trans q19_2_M8
    have q19_4_M9 : id (M9 19 4 = M 19 4) := (show M9 19 4 = M8 19 4 by rw [hM9]; exact mu_ne _ _ (by first | decide | omega)).trans q19_4_M8
    have q19_6_M9 : id (M9 19 6 = M 19 6) := (show M9 19 6 = M8 19 6 by rw [hM9]; exact mu_ne _ _ (by first | decide | omega)).trans q19_6_M8
    have q29_0_M9 : id (M9 29 0 = M 29 0) := (show M9 29 0 = M8 29 0 by rw [hM9]; exact mu_ne _ _ (by first | decide | omega)).trans q29_0_M8
    have q29_1_M9 : id (M9 29 1 = M 29 1) := (show M9 29 1 = M8 29 1 by rw [hM9]; exact mu_ne _ _ (by first | decide | omega)).trans q29_1_M8
    have q0_11_M9 : id (M9 0 11 = M 0 11) := (show M9 0 11 = M8 0 11 by rw [hM9]; exact mu_ne _ _ (by first | decide | omega)).trans q0_11_M8
    have q2_5_M9 : (M9 2 5 = M 2 5) := (show M9 2 5 = M8 2 5 by rw [hM9]; exact mu_ne _ _ (by first | decide | omega)).trans q2_5_M8
    have q0_10_M9 : (M9 0 10 = M 0 10) := (show M9 0 10 = M8 0 10 by rw [hM9]; exact mu_ne _ _ (by first | decide | omega)).trans q0_10_M8
    have wM9_31_1 : M9 31 1 = M8 31 1 := by rw [hM9]; exact mu_ne _ _ (by first | decide | omega)
    have wM9_2_5 : M9 2 5 = M8 2 5 := by rw [hM9]; exact mu_ne _ _ (by first | decide | omega)
    have wM9_0_12 : M9 0 12 = M8 0 12 := by rw [hM9]; exact mu_ne _ _ (by first | decide | omega)
    have wM9_0_10 : M9 0 10 = M8 0 10 := by rw [hM9]; exact mu_ne _ _ (by first | decide | omega)
    have xM9_0_12 : M9 0 12 = z6 := (show M9 0 12 = M8 0 12 by rw [hM9]; exact mu_ne _ _ (by first | decide | omega)).trans xM8_0_12
    have xM9_31_1 : M9 31 1 = 0 := (show M9 31 1 = M8 31 1 by rw [hM9]; exact mu_ne _ _ (by first | decide | omega)).trans xM8_31_1
    have xM9_0_13 : M9 0 13 = (-1) := by rw [hM9]; exact mu_at _ _ _ _
    refine g_iload_n (pc' := 41) 0 dX9_evening_40 rfl rfl ?_
    refine g_if_ne (pc' := 44) (tgt := 51) ⟨by omega, by omega⟩ dX9_evening_41 rfl rfl (fun c10 => ?_) (fun c10 => ?_)
    · refine g_aload_n (pc' := 52) 1 dX9_evening_51 rfl rfl ?_
      refine g_getR (pc' := 55) dX9_evening_52 rfl f_X9_39 rfl rfl ?_
      refine g_aload_n (pc' := 56) 1 dX9_evening_55 rfl rfl ?_
      refine g_getR (pc' := 59) dX9_evening_56 rfl f_X9_27 rfl rfl ?_
      refine g_getR (pc' := 62) dX9_evening_59 rfl f_X9_172 rfl rfl ?_
      refine g_aload_n (pc' := 63) 1 dX9_evening_62 rfl rfl ?_
      refine g_getR (pc' := 66) dX9_evening_63 rfl f_X9_12 rfl rfl ?_
      refine g_getR (pc' := 69) dX9_evening_66 rfl f_X9_86 rfl rfl ?_
      refine g_callVi (pc' := 72) (As := [vr X 37, vr X 2]) (b := 53) (S := []) dX9_evening_69 rfl m_X9_176 w_X3_run (c_X3_run X M9 iM9) rfl ⟨_, _, _, rfl, rfl, rfl⟩ (by decide) (by decide) rfl (Nat.le_of_ble_eq_true rfl) (fun z12 M13 q11 => ?_)
      obtain ⟨iM13, fM130, pM13⟩ := q11
      have fM13 : Fr (fun c => (2 ≤ c ∧ c ≤ 6) ∨ (30 ≤ c ∧ c ≤ 59) ∨ c = 0 ∨ c = 96) M M13 := Fr.tr fM9 fM130 fi_14
      have q1_2_M13 : id (M13 1 2 = M 1 2) := (congrFun (fM130 1 (by first | decide | omega | (dsimp only; omega))) 2).trans q1_2_M9
      have q1_4_M13 : id (M13 1 4 = M 1 4) := (congrFun (fM130 1 (by first | decide | omega | (dsimp only; omega))) 4).trans q1_4_M9
      have q1_6_M13 : id (M13 1 6 = M 1 6) := (congrFun (fM130 1 (by first | decide | omega | (dsimp only; omega))) 6).trans q1_6_M9
      have q11_5_M13 : id (M13 11 5 = M 11 5) := (congrFun (fM130 11 (by first | decide | omega | (dsimp only; omega))) 5).trans q11_5_M9
      have q10_2_M13 : id (M13 10 2 = M 10 2) := (congrFun (fM130 10 (by first | decide | omega | (dsimp only; omega))) 2).trans q10_2_M9
      have q10_4_M13 : id (M13 10 4 = M 10 4) := (congrFun (fM130 10 (by first | decide | omega | (dsimp only; omega))) 4).trans q10_4_M9
      have q10_6_M13 : id (M13 10 6 = M 10 6) := (congrFun (fM130 10 (by first | decide | omega | (dsimp only; omega))) 6).trans q10_6_M9
      have q20_5_M13 : id (M13 20 5 = M 20 5) := (congrFun (fM130 20 (by first | decide | omega | (dsimp only; omega))) 5).trans q20_5_M9
      have q19_2_M13 : id (M13 19 2 = M 19 2) := (congrFun (fM130 19 (by first | decide | omega | (dsimp only; omega))) 2).trans q19_2_M9
      have q19_4_M13 : id (M13 19 4 = M 19 4) := (congrFun (fM130 19 (by first | decide | omega | (dsimp only; omega))) 4).trans q19_4_M9
      have q19_6_M13 : id (M13 19 6 = M 19 6) := (congrFun (fM130 19 (by first | decide | omega | (dsimp only; omega))) 6).trans q19_6_M9
      have q29_0_M13 : id (M13 29 0 = M 29 0) := (congrFun (fM130 29 (by first | decide | omega | (dsimp only; omega))) 0).trans q29_0_M9
      have q29_1_M13 : id (M13 29 1 = M 29 1) := (congrFun (fM130 29 (by first | decide | omega | (dsimp only; omega))) 1).trans q29_1_M9
      have q0_11_M13 : id (M13 0 11 = M 0 11) := (congrFun (fM130 0 (by first | decide | omega | (dsimp only; omega))) 11).trans q0_11_M9
      have q0_10_M13 : (M13 0 10 = M 0 10) := (congrFun (fM130 0 (by first | decide | omega | (dsimp only; omega))) 10).trans q0_10_M9
      have wM13_31_1 : M13 31 1 = M9 31 1 := (congrFun (fM130 31 (by first | decide | omega | (dsimp only; omega))) 1)
      have wM13_0_12 : M13 0 12 = M9 0 12 := (congrFun (fM130 0 (by first | decide | omega | (dsimp only; omega))) 12)
      have wM13_0_13 : M13 0 13 = M9 0 13 := (congrFun (fM130 0 (by first | decide | omega | (dsimp only; omega))) 13)
      have wM13_0_10 : M13 0 10 = M9 0 10 := (congrFun (fM130 0 (by first | decide | omega | (dsimp only; omega))) 10)
      have xM13_0_12 : M13 0 12 = z6 := (congrFun (fM130 0 (by first | decide | omega | (dsimp only; omega))) 12).trans xM9_0_12
      have xM13_31_1 : M13 31 1 = 0 := (congrFun (fM130 31 (by first | decide | omega | (dsimp only; omega))) 1).trans xM9_31_1
      have xM13_0_13 : M13 0 13 = (-1) := (congrFun (fM130 0 (by first | decide | omega | (dsimp only; omega))) 13).trans xM9_0_13
      refine g_istore_n (pc' := 73) (i := 2) (L' := [(2, vi z12), (1, vi z2), (0, vr X 0)]) dX9_evening_72 rfl rfl (by decide) rfl ?_
      refine g_iload_n (pc' := 74) 0 dX9_evening_73 rfl rfl ?_
      refine g_if_ge (pc' := 77) (tgt := 88) ⟨by omega, by omega⟩ dX9_evening_74 rfl rfl (fun c14 => ?_) (fun c14 => ?_)
      · refine g_aload_n (pc' := 89) 2 dX9_evening_88 rfl rfl ?_
        refine g_iload_n (pc' := 90) 0 dX9_evening_89 rfl rfl ?_
        refine g_callVi (pc' := 93) (As := [vi z12]) (b := 0) (S := []) dX9_evening_90 rfl m_X9_79 w_X9_answered (c_X9_answered X M13 iM13 z12 ⟨by omega, by omega⟩) rfl ⟨_, _, _, rfl, rfl, rfl⟩ (by decide) (by decide) rfl (Nat.le_of_ble_eq_true rfl) (fun z16 M17 q15 => ?_)
        obtain ⟨iM17, fM170, eM17_2_5, eM17_1_2, eM17_1_4, eM17_1_6, eM17_11_5, eM17_10_2, eM17_10_4, eM17_10_6, eM17_20_5, eM17_19_2, eM17_19_4, eM17_19_6, eM17_29_0, eM17_29_1, eM17_31_1, eM17_0_11, eM17_0_12, eM17_0_13, pM17⟩ := q15
        have fM17 : Fr (fun c => (2 ≤ c ∧ c ≤ 6) ∨ (30 ≤ c ∧ c ≤ 59) ∨ c = 0 ∨ c = 96) M M17 := Fr.tr fM13 fM170 fi_15
        have q1_2_M17 : id (M17 1 2 = M 1 2) := eM17_1_2.trans q1_2_M13
        have q1_4_M17 : id (M17 1 4 = M 1 4) := eM17_1_4.trans q1_4_M13
        have q1_6_M17 : id (M17 1 6 = M 1 6) := eM17_1_6.trans q1_6_M13
        have q11_5_M17 : id (M17 11 5 = M 11 5) := eM17_11_5.trans q11_5_M13
        have q10_2_M17 : id (M17 10 2 = M 10 2) := eM17_10_2.trans q10_2_M13
        have q10_4_M17 : id (M17 10 4 = M 10 4) := eM17_10_4.trans q10_4_M13
        have q10_6_M17 : id (M17 10 6 = M 10 6) := eM17_10_6.trans q10_6_M13
        have q20_5_M17 : id (M17 20 5 = M 20 5) := eM17_20_5.trans q20_5_M13
        have q19_2_M17 : id (M17 19 2 = M 19 2) := eM17_19_2.trans q19_2_M13
        have q19_4_M17 : id (M17 19 4 = M 19 4) := eM17_19_4.trans q19_4_M13
        have q19_6_M17 : id (M17 19 6 = M 19 6) := eM17_19_6.trans q19_6_M13
        have q29_0_M17 : id (M17 29 0 = M 29 0) := eM17_29_0.trans q29_0_M13
        have q29_1_M17 : id (M17 29 1 = M 29 1) := eM17_29_1.trans q29_1_M13
        have q0_11_M17 : id (M17 0 11 = M 0 11) := eM17_0_11.trans q0_11_M13
        have wM17_31_1 : M17 31 1 = M13 31 1 := eM17_31_1
        have wM17_2_5 : M17 2 5 = M13 2 5 := eM17_2_5
        have wM17_0_12 : M17 0 12 = M13 0 12 := eM17_0_12
        have wM17_0_13 : M17 0 13 = M13 0 13 := eM17_0_13
        have xM17_0_12 : M17 0 12 = z6 := eM17_0_12.trans xM13_0_12
        have xM17_31_1 : M17 31 1 = 0 := eM17_31_1.trans xM13_31_1
        have xM17_0_13 : M17 0 13 = (-1) := eM17_0_13.trans xM13_0_13
        clear eM17_1_2 eM17_1_4 eM17_1_6 eM17_11_5 eM17_10_2 eM17_10_4 eM17_10_6 eM17_20_5 eM17_19_2 eM17_19_4 eM17_19_6 eM17_29_0 eM17_29_1 eM17_0_11
        refine g_ireturn dX9_evening_93 ?_
        exact ⟨iM17, fM17, q1_2_M17, q1_4_M17, q1_6_M17, q11_5_M17, q10_2_M17, q10_4_M17, q10_6_M17, q20_5_M17, q19_2_M17, q19_4_M17, q19_6_M17, q29_0_M17, q29_1_M17, q0_11_M17, by omega, by rw [show M17 0 12 = z6 by omega]; exact fe⟩
      · refine g_aload_n (pc' := 78) 2 dX9_evening_77 rfl rfl ?_
        refine g_aload_n (pc' := 79) 2 dX9_evening_78 rfl rfl ?_
        refine g_getR (pc' := 82) dX9_evening_79 rfl f_X9_39 rfl rfl ?_
        refine g_getI (pc' := 85) dX9_evening_82 rfl f_X9_180 rfl rfl (fun v18 ev18 rv18 => ?_)
        refine g_putI (pc' := 88) dX9_evening_85 rfl p_X9_72 rfl rfl rv18 (fun M19 hM19 => ?_)
        have iM19 : IC M19 := IC.wr iM13 hM19 (by unfold okw isT; first | decide | omega)
        have fM19 : Fr (fun c => (2 ≤ c ∧ c ≤ 6) ∨ (30 ≤ c ∧ c ≤ 59) ∨ c = 0 ∨ c = 96) M M19 := Fr.wr fM13 hM19 (by first | decide | omega | (dsimp only; omega))
        have q1_2_M19 : id (M19 1 2 = M 1 2) := (show M19 1 2 = M13 1 2 by rw [hM19]; exact mu_ne _ _ (by first | decide | omega)).trans q1_2_M13
        have q1_4_M19 : id (M19 1 4 = M 1 4) := (show M19 1 4 = M13 1 4 by rw [hM19]; exact mu_ne _ _ (by first | decide | omega)).trans q1_4_M13
        have q1_6_M19 : id (M19 1 6 = M 1 6) := (show M19 1 6 = M13 1 6 by rw [hM19]; exact mu_ne _ _ (by first | decide | omega)).trans q1_6_M13
        have q11_5_M19 : id (M19 11 5 = M 11 5) := (show M19 11 5 = M13 11 5 by rw [hM19]; exact mu_ne _ _ (by first | decide | omega)).trans q11_5_M13
        have q10_2_M19 : id (M19 10 2 = M 10 2) := (show M19 10 2 = M13 10 2 by rw [hM19]; exact mu_ne _ _ (by first | decide | omega)).trans q10_2_M13
        have q10_4_M19 : id (M19 10 4 = M 10 4) := (show M19 10 4 = M13 10 4 by rw [hM19]; exact mu_ne _ _ (by first | decide | omega)).trans q10_4_M13
        have q10_6_M19 : id (M19 10 6 = M 10 6) := (show M19 10 6 = M13 10 6 by rw [hM19]; exact mu_ne _ _ (by first | decide | omega)).trans q10_6_M13
        have q20_5_M19 : id (M19 20 5 = M 20 5) := (show M19 20 5 = M13 20 5 by rw [hM19]; exact mu_ne _ _ (by first | decide | omega)).trans q20_5_M13
        have q19_2_M19 : id (M19 19 2 = M 19 2) := (show M19 19 2 = M13 19 2 by rw [hM19]; exact mu_ne _ _ (by first | decide | omega)).trans q19_2_M13
        have q19_4_M19 : id (M19 19 4 = M 19 4) := (show M19 19 4 = M13 19 4 by rw [hM19]; exact mu_ne _ _ (by first | decide | omega)).trans q19_4_M13
        have q19_6_M19 : id (M19 19 6 = M 19 6) := (show M19 19 6 = M13 19 6 by rw [hM19]; exact mu_ne _ _ (by first | decide | omega)).trans q19_6_M13
        have q29_0_M19 : id (M19 29 0 = M 29 0) := (show M19 29 0 = M13 29 0 by rw [hM19]; exact mu_ne _ _ (by first | decide | omega)).trans q29_0_M13
        have q29_1_M19 : id (M19 29 1 = M 29 1) := (show M19 29 1 = M13 29 1 by rw [hM19]; exact mu_ne _ _ (by first | decide | omega)).trans q29_1_M13
        have q0_11_M19 : id (M19 0 11 = M 0 11) := (show M19 0 11 = M13 0 11 by rw [hM19]; exact mu_ne _ _ (by first | decide | omega)).trans q0_11_M13
        have q0_10_M19 : (M19 0 10 = M 0 10) := (show M19 0 10 = M13 0 10 by rw [hM19]; exact mu_ne _ _ (by first | decide | omega)).trans q0_10_M13
        have wM19_31_1 : M19 31 1 = M13 31 1 := by rw [hM19]; exact mu_ne _ _ (by first | decide | omega)
        have wM19_2_5 : M19 2 5 = M13 2 5 := by rw [hM19]; exact mu_ne _ _ (by first | decide | omega)
        have wM19_0_12 : M19 0 12 = M13 0 12 := by rw [hM19]; exact mu_ne _ _ (by first | decide | omega)
        have wM19_0_10 : M19 0 10 = M13 0 10 := by rw [hM19]; exact mu_ne _ _ (by first | decide | omega)
        have xM19_0_12 : M19 0 12 = z6 := (show M19 0 12 = M13 0 12 by rw [hM19]; exact mu_ne _ _ (by first | decide | omega)).trans xM13_0_12
        have xM19_31_1 : M19 31 1 = 0 := (show M19 31 1 = M13 31 1 by rw [hM19]; exact mu_ne _ _ (by first | decide | omega)).trans xM13_31_1
        have xM19_0_13 : M19 0 13 = v18 := by rw [hM19]; exact mu_at _ _ _ _
        refine g_aload_n (pc' := 89) 2 dX9_evening_88 rfl rfl ?_
        refine g_iload_n (pc' := 90) 0 dX9_evening_89 rfl rfl ?_
        refine g_callVi (pc' := 93) (As := [vi z12]) (b := 0) (S := []) dX9_evening_90 rfl m_X9_79 w_X9_answered (c_X9_answered X M19 iM19 z12 ⟨by omega, by omega⟩) rfl ⟨_, _, _, rfl, rfl, rfl⟩ (by decide) (by decide) rfl (Nat.le_of_ble_eq_true rfl) (fun z21 M22 q20 => ?_)
        obtain ⟨iM22, fM220, eM22_2_5, eM22_1_2, eM22_1_4, eM22_1_6, eM22_11_5, eM22_10_2, eM22_10_4, eM22_10_6, eM22_20_5, eM22_19_2, eM22_19_4, eM22_19_6, eM22_29_0, eM22_29_1, eM22_31_1, eM22_0_11, eM22_0_12, eM22_0_13, pM22⟩ := q20
        have fM22 : Fr (fun c => (2 ≤ c ∧ c ≤ 6) ∨ (30 ≤ c ∧ c ≤ 59) ∨ c = 0 ∨ c = 96) M M22 := Fr.tr fM19 fM220 fi_15
        have q1_2_M22 : id (M22 1 2 = M 1 2) := eM22_1_2.trans q1_2_M19
        have q1_4_M22 : id (M22 1 4 = M 1 4) := eM22_1_4.trans q1_4_M19
        have q1_6_M22 : id (M22 1 6 = M 1 6) := eM22_1_6.trans q1_6_M19
        have q11_5_M22 : id (M22 11 5 = M 11 5) := eM22_11_5.trans q11_5_M19
        have q10_2_M22 : id (M22 10 2 = M 10 2) := eM22_10_2.trans q10_2_M19
        have q10_4_M22 : id (M22 10 4 = M 10 4) := eM22_10_4.trans q10_4_M19
        have q10_6_M22 : id (M22 10 6 = M 10 6) := eM22_10_6.trans q10_6_M19
        have q20_5_M22 : id (M22 20 5 = M 20 5) := eM22_20_5.trans q20_5_M19
        have q19_2_M22 : id (M22 19 2 = M 19 2) := eM22_19_2.trans q19_2_M19
        have q19_4_M22 : id (M22 19 4 = M 19 4) := eM22_19_4.trans q19_4_M19
        have q19_6_M22 : id (M22 19 6 = M 19 6) := eM22_19_6.trans q19_6_M19
        have q29_0_M22 : id (M22 29 0 = M 29 0) := eM22_29_0.trans q29_0_M19
        have q29_1_M22 : id (M22 29 1 = M 29 1) := eM22_29_1.trans q29_1_M19
        have q0_11_M22 : id (M22 0 11 = M 0 11) := eM22_0_11.trans q0_11_M19
        have wM22_31_1 : M22 31 1 = M19 31 1 := eM22_31_1
        have wM22_2_5 : M22 2 5 = M19 2 5 := eM22_2_5
        have wM22_0_12 : M22 0 12 = M19 0 12 := eM22_0_12
        have wM22_0_13 : M22 0 13 = M19 0 13 := eM22_0_13
        have xM22_0_12 : M22 0 12 = z6 := eM22_0_12.trans xM19_0_12
        have xM22_31_1 : M22 31 1 = 0 := eM22_31_1.trans xM19_31_1
        have xM22_0_13 : M22 0 13 = v18 := eM22_0_13.trans xM19_0_13
        clear eM22_1_2 eM22_1_4 eM22_1_6 eM22_11_5 eM22_10_2 eM22_10_4 eM22_10_6 eM22_20_5 eM22_19_2 eM22_19_4 eM22_19_6 eM22_29_0 eM22_29_1 eM22_0_11
        refine g_ireturn dX9_evening_93 ?_
        exact ⟨iM22, fM22, q1_2_M22, q1_4_M22, q1_6_M22, q11_5_M22, q10_2_M22, q10_4_M22, q10_6_M22, q20_5_M22, q19_2_M22, q19_4_M22, q19_6_M22, q29_0_M22, q29_1_M22, q0_11_M22, by omega, by rw [show M22 0 12 = z6 by omega]; exact fe⟩
    · refine g_aload_n (pc' := 45) 1 dX9_evening_44 rfl rfl ?_
      refine g_bipush (pc' := 47) (v := (-6)) dX9_evening_45 rfl (by decide) ?_
      refine g_callVi (pc' := 50) (As := [vi (-6)]) (b := 0) (S := []) dX9_evening_47 rfl m_X9_79 w_X9_answered (c_X9_answered X M9 iM9 (-6) (by decide)) rfl ⟨_, _, _, rfl, rfl, rfl⟩ (by decide) (by decide) rfl (Nat.le_of_ble_eq_true rfl) (fun z24 M25 q23 => ?_)
      obtain ⟨iM25, fM250, eM25_2_5, eM25_1_2, eM25_1_4, eM25_1_6, eM25_11_5, eM25_10_2, eM25_10_4, eM25_10_6, eM25_20_5, eM25_19_2, eM25_19_4, eM25_19_6, eM25_29_0, eM25_29_1, eM25_31_1, eM25_0_11, eM25_0_12, eM25_0_13, pM25⟩ := q23
      have fM25 : Fr (fun c => (2 ≤ c ∧ c ≤ 6) ∨ (30 ≤ c ∧ c ≤ 59) ∨ c = 0 ∨ c = 96) M M25 := Fr.tr fM9 fM250 fi_15
      have q1_2_M25 : id (M25 1 2 = M 1 2) := eM25_1_2.trans q1_2_M9
      have q1_4_M25 : id (M25 1 4 = M 1 4) := eM25_1_4.trans q1_4_M9
      have q1_6_M25 : id (M25 1 6 = M 1 6) := eM25_1_6.trans q1_6_M9
      have q11_5_M25 : id (M25 11 5 = M 11 5) := eM25_11_5.trans q11_5_M9
      have q10_2_M25 : id (M25 10 2 = M 10 2) := eM25_10_2.trans q10_2_M9
      have q10_4_M25 : id (M25 10 4 = M 10 4) := eM25_10_4.trans q10_4_M9
      have q10_6_M25 : id (M25 10 6 = M 10 6) := eM25_10_6.trans q10_6_M9
      have q20_5_M25 : id (M25 20 5 = M 20 5) := eM25_20_5.trans q20_5_M9
      have q19_2_M25 : id (M25 19 2 = M 19 2) := eM25_19_2.trans q19_2_M9
      have q19_4_M25 : id (M25 19 4 = M 19 4) := eM25_19_4.trans q19_4_M9
      have q19_6_M25 : id (M25 19 6 = M 19 6) := eM25_19_6.trans q19_6_M9
      have q29_0_M25 : id (M25 29 0 = M 29 0) := eM25_29_0.trans q29_0_M9
      have q29_1_M25 : id (M25 29 1 = M 29 1) := eM25_29_1.trans q29_1_M9
      have q0_11_M25 : id (M25 0 11 = M 0 11) := eM25_0_11.trans q0_11_M9
      have q2_5_M25 : (M25 2 5 = M 2 5) := eM25_2_5.trans q2_5_M9
      have wM25_31_1 : M25 31 1 = M9 31 1 := eM25_31_1
      have wM25_2_5 : M25 2 5 = M9 2 5 := eM25_2_5
      have wM25_0_12 : M25 0 12 = M9 0 12 := eM25_0_12
      have wM25_0_13 : M25 0 13 = M9 0 13 := eM25_0_13
      have xM25_0_12 : M25 0 12 = z6 := eM25_0_12.trans xM9_0_12
      have xM25_31_1 : M25 31 1 = 0 := eM25_31_1.trans xM9_31_1
      have xM25_0_13 : M25 0 13 = (-1) := eM25_0_13.trans xM9_0_13
      clear eM25_1_2 eM25_1_4 eM25_1_6 eM25_11_5 eM25_10_2 eM25_10_4 eM25_10_6 eM25_20_5 eM25_19_2 eM25_19_4 eM25_19_6 eM25_29_0 eM25_29_1 eM25_0_11
      refine g_ireturn dX9_evening_50 ?_
      exact ⟨iM25, fM25, q1_2_M25, q1_4_M25, q1_6_M25, q11_5_M25, q10_2_M25, q10_4_M25, q10_6_M25, q20_5_M25, q19_2_M25, q19_4_M25, q19_6_M25, q29_0_M25, q29_1_M25, q0_11_M25, by omega, by rw [show M25 0 12 = z6 by omega]; exact fe⟩
  · refine g_iconst (pc' := 14) dX9_evening_13 rfl ?_
    refine g_goto (tgt := 24) dX9_evening_14 rfl ?_
    refine g_putI (pc' := 27) dX9_evening_24 rfl p_X9_68 rfl rfl (by decide) (fun M26 hM26 => ?_)
    have iM26 : IC M26 := IC.wr iM3 hM26 (by unfold okw isT; first | decide | omega)
    have fM26 : Fr (fun c => (2 ≤ c ∧ c ≤ 6) ∨ (30 ≤ c ∧ c ≤ 59) ∨ c = 0 ∨ c = 96) M M26 := Fr.wr fM3 hM26 (by first | decide | omega | (dsimp only; omega))
    have q1_2_M26 : id (M26 1 2 = M 1 2) := (show M26 1 2 = M3 1 2 by rw [hM26]; exact mu_ne _ _ (by first | decide | omega)).trans q1_2_M3
    have q1_4_M26 : id (M26 1 4 = M 1 4) := (show M26 1 4 = M3 1 4 by rw [hM26]; exact mu_ne _ _ (by first | decide | omega)).trans q1_4_M3
    have q1_6_M26 : id (M26 1 6 = M 1 6) := (show M26 1 6 = M3 1 6 by rw [hM26]; exact mu_ne _ _ (by first | decide | omega)).trans q1_6_M3
    have q11_5_M26 : id (M26 11 5 = M 11 5) := (show M26 11 5 = M3 11 5 by rw [hM26]; exact mu_ne _ _ (by first | decide | omega)).trans q11_5_M3
    have q10_2_M26 : id (M26 10 2 = M 10 2) := (show M26 10 2 = M3 10 2 by rw [hM26]; exact mu_ne _ _ (by first | decide | omega)).trans q10_2_M3
    have q10_4_M26 : id (M26 10 4 = M 10 4) := (show M26 10 4 = M3 10 4 by rw [hM26]; exact mu_ne _ _ (by first | decide | omega)).trans q10_4_M3
    have q10_6_M26 : id (M26 10 6 = M 10 6) := (show M26 10 6 = M3 10 6 by rw [hM26]; exact mu_ne _ _ (by first | decide | omega)).trans q10_6_M3
    have q20_5_M26 : id (M26 20 5 = M 20 5) := (show M26 20 5 = M3 20 5 by rw [hM26]; exact mu_ne _ _ (by first | decide | omega)).trans q20_5_M3
    have q19_2_M26 : id (M26 19 2 = M 19 2) := (show M26 19 2 = M3 19 2 by rw [hM26]; exact mu_ne _ _ (by first | decide | omega)).trans q19_2_M3
    have q19_4_M26 : id (M26 19 4 = M 19 4) := (show M26 19 4 = M3 19 4 by rw [hM26]; exact mu_ne _ _ (by first | decide | omega)).trans q19_4_M3
    have q19_6_M26 : id (M26 19 6 = M 19 6) := (show M26 19 6 = M3 19 6 by rw [hM26]; exact mu_ne _ _ (by first | decide | omega)).trans q19_6_M3
    have q29_0_M26 : id (M26 29 0 = M 29 0) := (show M26 29 0 = M3 29 0 by rw [hM26]; exact mu_ne _ _ (by first | decide | omega)).trans q29_0_M3
    have q29_1_M26 : id (M26 29 1 = M 29 1) := (show M26 29 1 = M3 29 1 by rw [hM26]; exact mu_ne _ _ (by first | decide | omega)).trans q29_1_M3
    have q0_11_M26 : id (M26 0 11 = M 0 11) := (show M26 0 11 = M3 0 11 by rw [hM26]; exact mu_ne _ _ (by first | decide | omega)).trans q0_11_M3
    have q31_1_M26 : (M26 31 1 = M 31 1) := (show M26 31 1 = M3 31 1 by rw [hM26]; exact mu_ne _ _ (by first | decide | omega)).trans q31_1_M3
    have q2_5_M26 : (M26 2 5 = M 2 5) := (show M26 2 5 = M3 2 5 by rw [hM26]; exact mu_ne _ _ (by first | decide | omega)).trans q2_5_M3
    have q0_13_M26 : (M26 0 13 = M 0 13) := (show M26 0 13 = M3 0 13 by rw [hM26]; exact mu_ne _ _ (by first | decide | omega)).trans q0_13_M3
    have q0_10_M26 : (M26 0 10 = M 0 10) := (show M26 0 10 = M3 0 10 by rw [hM26]; exact mu_ne _ _ (by first | decide | omega)).trans q0_10_M3
    have wM26_31_1 : M26 31 1 = M3 31 1 := by rw [hM26]; exact mu_ne _ _ (by first | decide | omega)
    have wM26_2_5 : M26 2 5 = M3 2 5 := by rw [hM26]; exact mu_ne _ _ (by first | decide | omega)
    have wM26_0_13 : M26 0 13 = M3 0 13 := by rw [hM26]; exact mu_ne _ _ (by first | decide | omega)
    have wM26_0_10 : M26 0 10 = M3 0 10 := by rw [hM26]; exact mu_ne _ _ (by first | decide | omega)
    have xM26_0_12 : M26 0 12 = (-1) := by rw [hM26]; exact mu_at _ _ _ _
    have fe : FEQ (M 32) (M 31 1) (-1) := ⟨K, W, M3 34, M3 35, m, tzM3, Or.inl ⟨by rw [j3]; show z2 = 1; omega, rfl⟩⟩
    refine g_aload_n (pc' := 28) 1 dX9_evening_27 rfl rfl ?_
    refine g_getR (pc' := 31) dX9_evening_28 rfl f_X9_35 rfl rfl ?_
    refine g_iconst (pc' := 32) dX9_evening_31 rfl ?_
    refine g_putI (pc' := 35) dX9_evening_32 rfl p_X9_147 rfl rfl (by decide) (fun M27 hM27 => ?_)
    have iM27 : IC M27 := IC.wr iM26 hM27 (by unfold okw isT; first | decide | omega)
    have fM27 : Fr (fun c => (2 ≤ c ∧ c ≤ 6) ∨ (30 ≤ c ∧ c ≤ 59) ∨ c = 0 ∨ c = 96) M M27 := Fr.wr fM26 hM27 (by first | decide | omega | (dsimp only; omega))
    have q1_2_M27 : id (M27 1 2 = M 1 2) := (show M27 1 2 = M26 1 2 by rw [hM27]; exact mu_ne _ _ (by first | decide | omega)).trans q1_2_M26
    have q1_4_M27 : id (M27 1 4 = M 1 4) := (show M27 1 4 = M26 1 4 by rw [hM27]; exact mu_ne _ _ (by first | decide | omega)).trans q1_4_M26
    have q1_6_M27 : id (M27 1 6 = M 1 6) := (show M27 1 6 = M26 1 6 by rw [hM27]; exact mu_ne _ _ (by first | decide | omega)).trans q1_6_M26
    have q11_5_M27 : id (M27 11 5 = M 11 5) := (show M27 11 5 = M26 11 5 by rw [hM27]; exact mu_ne _ _ (by first | decide | omega)).trans q11_5_M26
    have q10_2_M27 : id (M27 10 2 = M 10 2) := (show M27 10 2 = M26 10 2 by rw [hM27]; exact mu_ne _ _ (by first | decide | omega)).trans q10_2_M26
    have q10_4_M27 : id (M27 10 4 = M 10 4) := (show M27 10 4 = M26 10 4 by rw [hM27]; exact mu_ne _ _ (by first | decide | omega)).trans q10_4_M26
    have q10_6_M27 : id (M27 10 6 = M 10 6) := (show M27 10 6 = M26 10 6 by rw [hM27]; exact mu_ne _ _ (by first | decide | omega)).trans q10_6_M26
    have q20_5_M27 : id (M27 20 5 = M 20 5) := (show M27 20 5 = M26 20 5 by rw [hM27]; exact mu_ne _ _ (by first | decide | omega)).trans q20_5_M26
    have q19_2_M27 : id (M27 19 2 = M 19 2) := (show M27 19 2 = M26 19 2 by rw [hM27]; exact mu_ne _ _ (by first | decide | omega)).trans q19_2_M26
    have q19_4_M27 : id (M27 19 4 = M 19 4) := (show M27 19 4 = M26 19 4 by rw [hM27]; exact mu_ne _ _ (by first | decide | omega)).trans q19_4_M26
    have q19_6_M27 : id (M27 19 6 = M 19 6) := (show M27 19 6 = M26 19 6 by rw [hM27]; exact mu_ne _ _ (by first | decide | omega)).trans q19_6_M26
    have q29_0_M27 : id (M27 29 0 = M 29 0) := (show M27 29 0 = M26 29 0 by rw [hM27]; exact mu_ne _ _ (by first | decide | omega)).trans q29_0_M26
    have q29_1_M27 : id (M27 29 1 = M 29 1) := (show M27 29 1 = M26 29 1 by rw [hM27]; exact mu_ne _ _ (by first | decide | omega)).trans q29_1_M26
    have q0_11_M27 : id (M27 0 11 = M 0 11) := (show M27 0 11 = M26 0 11 by rw [hM27]; exact mu_ne _ _ (by first | decide | omega)).trans q0_11_M26
    have q2_5_M27 : (M27 2 5 = M 2 5) := (show M27 2 5 = M26 2 5 by rw [hM27]; exact mu_ne _ _ (by first | decide | omega)).trans q2_5_M26
    have q0_13_M27 : (M27 0 13 = M 0 13) := (show M27 0 13 = M26 0 13 by rw [hM27]; exact mu_ne _ _ (by first | decide | omega)).trans q0_13_M26
    have q0_10_M27 : (M27 0 10 = M 0 10) := (show M27 0 10 = M26 0 10 by rw [hM27]; exact mu_ne _ _ (by first | decide | omega)).trans q0_10_M26
    have wM27_2_5 : M27 2 5 = M26 2 5 := by rw [hM27]; exact mu_ne _ _ (by first | decide | omega)
    have wM27_0_12 : M27 0 12 = M26 0 12 := by rw [hM27]; exact mu_ne _ _ (by first | decide | omega)
    have wM27_0_13 : M27 0 13 = M26 0 13 := by rw [hM27]; exact mu_ne _ _ (by first | decide | omega)
    have wM27_0_10 : M27 0 10 = M26 0 10 := by rw [hM27]; exact mu_ne _ _ (by first | decide | omega)
    have xM27_0_12 : M27 0 12 = (-1) := (show M27 0 12 = M26 0 12 by rw [hM27]; exact mu_ne _ _ (by first | decide | omega)).trans xM26_0_12
    have xM27_31_1 : M27 31 1 = 0 := by rw [hM27]; exact mu_at _ _ _ _
    refine g_aload_n (pc' := 36) 1 dX9_evening_35 rfl rfl ?_
    refine g_iconst (pc' := 37) dX9_evening_36 rfl ?_
    refine g_putI (pc' := 40) dX9_evening_37 rfl p_X9_72 rfl rfl (by decide) (fun M28 hM28 => ?_)
    have iM28 : IC M28 := IC.wr iM27 hM28 (by unfold okw isT; first | decide | omega)
    have fM28 : Fr (fun c => (2 ≤ c ∧ c ≤ 6) ∨ (30 ≤ c ∧ c ≤ 59) ∨ c = 0 ∨ c = 96) M M28 := Fr.wr fM27 hM28 (by first | decide | omega | (dsimp only; omega))
    have q1_2_M28 : id (M28 1 2 = M 1 2) := (show M28 1 2 = M27 1 2 by rw [hM28]; exact mu_ne _ _ (by first | decide | omega)).trans q1_2_M27
    have q1_4_M28 : id (M28 1 4 = M 1 4) := (show M28 1 4 = M27 1 4 by rw [hM28]; exact mu_ne _ _ (by first | decide | omega)).trans q1_4_M27
    have q1_6_M28 : id (M28 1 6 = M 1 6) := (show M28 1 6 = M27 1 6 by rw [hM28]; exact mu_ne _ _ (by first | decide | omega)).trans q1_6_M27
    have q11_5_M28 : id (M28 11 5 = M 11 5) := (show M28 11 5 = M27 11 5 by rw [hM28]; exact mu_ne _ _ (by first | decide | omega)).trans q11_5_M27
    have q10_2_M28 : id (M28 10 2 = M 10 2) := (show M28 10 2 = M27 10 2 by rw [hM28]; exact mu_ne _ _ (by first | decide | omega)).trans q10_2_M27
    have q10_4_M28 : id (M28 10 4 = M 10 4) := (show M28 10 4 = M27 10 4 by rw [hM28]; exact mu_ne _ _ (by first | decide | omega)).trans q10_4_M27
    have q10_6_M28 : id (M28 10 6 = M 10 6) := (show M28 10 6 = M27 10 6 by rw [hM28]; exact mu_ne _ _ (by first | decide | omega)).trans q10_6_M27
    have q20_5_M28 : id (M28 20 5 = M 20 5) := (show M28 20 5 = M27 20 5 by rw [hM28]; exact mu_ne _ _ (by first | decide | omega)).trans q20_5_M27
    have q19_2_M28 : id (M28 19 2 = M 19 2) := (show M28 19 2 = M27 19 2 by rw [hM28]; exact mu_ne _ _ (by first | decide | omega)).trans q19_2_M27
    have q19_4_M28 : id (M28 19 4 = M 19 4) := (show M28 19 4 = M27 19 4 by rw [hM28]; exact mu_ne _ _ (by first | decide | omega)).trans q19_4_M27
    have q19_6_M28 : id (M28 19 6 = M 19 6) := (show M28 19 6 = M27 19 6 by rw [hM28]; exact mu_ne _ _ (by first | decide | omega)).trans q19_6_M27
    have q29_0_M28 : id (M28 29 0 = M 29 0) := (show M28 29 0 = M27 29 0 by rw [hM28]; exact mu_ne _ _ (by first | decide | omega)).trans q29_0_M27
    have q29_1_M28 : id (M28 29 1 = M 29 1) := (show M28 29 1 = M27 29 1 by rw [hM28]; exact mu_ne _ _ (by first | decide | omega)).trans q29_1_M27
    have q0_11_M28 : id (M28 0 11 = M 0 11) := (show M28 0 11 = M27 0 11 by rw [hM28]; exact mu_ne _ _ (by first | decide | omega)).trans q0_11_M27
    have q2_5_M28 : (M28 2 5 = M 2 5) := (show M28 2 5 = M27 2 5 by rw [hM28]; exact mu_ne _ _ (by first | decide | omega)).trans q2_5_M27
    have q0_10_M28 : (M28 0 10 = M 0 10) := (show M28 0 10 = M27 0 10 by rw [hM28]; exact mu_ne _ _ (by first | decide | omega)).trans q0_10_M27
    have wM28_31_1 : M28 31 1 = M27 31 1 := by rw [hM28]; exact mu_ne _ _ (by first | decide | omega)
    have wM28_2_5 : M28 2 5 = M27 2 5 := by rw [hM28]; exact mu_ne _ _ (by first | decide | omega)
    have wM28_0_12 : M28 0 12 = M27 0 12 := by rw [hM28]; exact mu_ne _ _ (by first | decide | omega)
    have wM28_0_10 : M28 0 10 = M27 0 10 := by rw [hM28]; exact mu_ne _ _ (by first | decide | omega)
    have xM28_0_12 : M28 0 12 = (-1) := (show M28 0 12 = M27 0 12 by rw [hM28]; exact mu_ne _ _ (by first | decide | omega)).trans xM27_0_12
    have xM28_31_1 : M28 31 1 = 0 := (show M28 31 1 = M27 31 1 by rw [hM28]; exact mu_ne _ _ (by first | decide | omega)).trans xM27_31_1
    have xM28_0_13 : M28 0 13 = (-1) := by rw [hM28]; exact mu_at _ _ _ _
    refine g_iload_n (pc' := 41) 0 dX9_evening_40 rfl rfl ?_
    refine g_if_ne (pc' := 44) (tgt := 51) ⟨by omega, by omega⟩ dX9_evening_41 rfl rfl (fun c29 => ?_) (fun c29 => ?_)
    · refine g_aload_n (pc' := 52) 1 dX9_evening_51 rfl rfl ?_
      refine g_getR (pc' := 55) dX9_evening_52 rfl f_X9_39 rfl rfl ?_
      refine g_aload_n (pc' := 56) 1 dX9_evening_55 rfl rfl ?_
      refine g_getR (pc' := 59) dX9_evening_56 rfl f_X9_27 rfl rfl ?_
      refine g_getR (pc' := 62) dX9_evening_59 rfl f_X9_172 rfl rfl ?_
      refine g_aload_n (pc' := 63) 1 dX9_evening_62 rfl rfl ?_
      refine g_getR (pc' := 66) dX9_evening_63 rfl f_X9_12 rfl rfl ?_
      refine g_getR (pc' := 69) dX9_evening_66 rfl f_X9_86 rfl rfl ?_
      refine g_callVi (pc' := 72) (As := [vr X 37, vr X 2]) (b := 53) (S := []) dX9_evening_69 rfl m_X9_176 w_X3_run (c_X3_run X M28 iM28) rfl ⟨_, _, _, rfl, rfl, rfl⟩ (by decide) (by decide) rfl (Nat.le_of_ble_eq_true rfl) (fun z31 M32 q30 => ?_)
      obtain ⟨iM32, fM320, pM32⟩ := q30
      have fM32 : Fr (fun c => (2 ≤ c ∧ c ≤ 6) ∨ (30 ≤ c ∧ c ≤ 59) ∨ c = 0 ∨ c = 96) M M32 := Fr.tr fM28 fM320 fi_14
      have q1_2_M32 : id (M32 1 2 = M 1 2) := (congrFun (fM320 1 (by first | decide | omega | (dsimp only; omega))) 2).trans q1_2_M28
      have q1_4_M32 : id (M32 1 4 = M 1 4) := (congrFun (fM320 1 (by first | decide | omega | (dsimp only; omega))) 4).trans q1_4_M28
      have q1_6_M32 : id (M32 1 6 = M 1 6) := (congrFun (fM320 1 (by first | decide | omega | (dsimp only; omega))) 6).trans q1_6_M28
      have q11_5_M32 : id (M32 11 5 = M 11 5) := (congrFun (fM320 11 (by first | decide | omega | (dsimp only; omega))) 5).trans q11_5_M28
      have q10_2_M32 : id (M32 10 2 = M 10 2) := (congrFun (fM320 10 (by first | decide | omega | (dsimp only; omega))) 2).trans q10_2_M28
      have q10_4_M32 : id (M32 10 4 = M 10 4) := (congrFun (fM320 10 (by first | decide | omega | (dsimp only; omega))) 4).trans q10_4_M28
      have q10_6_M32 : id (M32 10 6 = M 10 6) := (congrFun (fM320 10 (by first | decide | omega | (dsimp only; omega))) 6).trans q10_6_M28
      have q20_5_M32 : id (M32 20 5 = M 20 5) := (congrFun (fM320 20 (by first | decide | omega | (dsimp only; omega))) 5).trans q20_5_M28
      have q19_2_M32 : id (M32 19 2 = M 19 2) := (congrFun (fM320 19 (by first | decide | omega | (dsimp only; omega))) 2).trans q19_2_M28
      have q19_4_M32 : id (M32 19 4 = M 19 4) := (congrFun (fM320 19 (by first | decide | omega | (dsimp only; omega))) 4).trans q19_4_M28
      have q19_6_M32 : id (M32 19 6 = M 19 6) := (congrFun (fM320 19 (by first | decide | omega | (dsimp only; omega))) 6).trans q19_6_M28
      have q29_0_M32 : id (M32 29 0 = M 29 0) := (congrFun (fM320 29 (by first | decide | omega | (dsimp only; omega))) 0).trans q29_0_M28
      have q29_1_M32 : id (M32 29 1 = M 29 1) := (congrFun (fM320 29 (by first | decide | omega | (dsimp only; omega))) 1).trans q29_1_M28
      have q0_11_M32 : id (M32 0 11 = M 0 11) := (congrFun (fM320 0 (by first | decide | omega | (dsimp only; omega))) 11).trans q0_11_M28
      have q0_10_M32 : (M32 0 10 = M 0 10) := (congrFun (fM320 0 (by first | decide | omega | (dsimp only; omega))) 10).trans q0_10_M28
      have wM32_31_1 : M32 31 1 = M28 31 1 := (congrFun (fM320 31 (by first | decide | omega | (dsimp only; omega))) 1)
      have wM32_0_12 : M32 0 12 = M28 0 12 := (congrFun (fM320 0 (by first | decide | omega | (dsimp only; omega))) 12)
      have wM32_0_13 : M32 0 13 = M28 0 13 := (congrFun (fM320 0 (by first | decide | omega | (dsimp only; omega))) 13)
      have wM32_0_10 : M32 0 10 = M28 0 10 := (congrFun (fM320 0 (by first | decide | omega | (dsimp only; omega))) 10)
      have xM32_0_12 : M32 0 12 = (-1) := (congrFun (fM320 0 (by first | decide | omega | (dsimp only; omega))) 12).trans xM28_0_12
      have xM32_31_1 : M32 31 1 = 0 := (congrFun (fM320 31 (by first | decide | omega | (dsimp only; omega))) 1).trans xM28_31_1
      have xM32_0_13 : M32 0 13 = (-1) := (congrFun (fM320 0 (by first | decide | omega | (dsimp only; omega))) 13).trans xM28_0_13
      refine g_istore_n (pc' := 73) (i := 2) (L' := [(2, vi z31), (1, vi z2), (0, vr X 0)]) dX9_evening_72 rfl rfl (by decide) rfl ?_
      refine g_iload_n (pc' := 74) 0 dX9_evening_73 rfl rfl ?_
      refine g_if_ge (pc' := 77) (tgt := 88) ⟨by omega, by omega⟩ dX9_evening_74 rfl rfl (fun c33 => ?_) (fun c33 => ?_)
      · refine g_aload_n (pc' := 89) 2 dX9_evening_88 rfl rfl ?_
        refine g_iload_n (pc' := 90) 0 dX9_evening_89 rfl rfl ?_
        refine g_callVi (pc' := 93) (As := [vi z31]) (b := 0) (S := []) dX9_evening_90 rfl m_X9_79 w_X9_answered (c_X9_answered X M32 iM32 z31 ⟨by omega, by omega⟩) rfl ⟨_, _, _, rfl, rfl, rfl⟩ (by decide) (by decide) rfl (Nat.le_of_ble_eq_true rfl) (fun z35 M36 q34 => ?_)
        obtain ⟨iM36, fM360, eM36_2_5, eM36_1_2, eM36_1_4, eM36_1_6, eM36_11_5, eM36_10_2, eM36_10_4, eM36_10_6, eM36_20_5, eM36_19_2, eM36_19_4, eM36_19_6, eM36_29_0, eM36_29_1, eM36_31_1, eM36_0_11, eM36_0_12, eM36_0_13, pM36⟩ := q34
        have fM36 : Fr (fun c => (2 ≤ c ∧ c ≤ 6) ∨ (30 ≤ c ∧ c ≤ 59) ∨ c = 0 ∨ c = 96) M M36 := Fr.tr fM32 fM360 fi_15
        have q1_2_M36 : id (M36 1 2 = M 1 2) := eM36_1_2.trans q1_2_M32
        have q1_4_M36 : id (M36 1 4 = M 1 4) := eM36_1_4.trans q1_4_M32
        have q1_6_M36 : id (M36 1 6 = M 1 6) := eM36_1_6.trans q1_6_M32
        have q11_5_M36 : id (M36 11 5 = M 11 5) := eM36_11_5.trans q11_5_M32
        have q10_2_M36 : id (M36 10 2 = M 10 2) := eM36_10_2.trans q10_2_M32
        have q10_4_M36 : id (M36 10 4 = M 10 4) := eM36_10_4.trans q10_4_M32
        have q10_6_M36 : id (M36 10 6 = M 10 6) := eM36_10_6.trans q10_6_M32
        have q20_5_M36 : id (M36 20 5 = M 20 5) := eM36_20_5.trans q20_5_M32
        have q19_2_M36 : id (M36 19 2 = M 19 2) := eM36_19_2.trans q19_2_M32
        have q19_4_M36 : id (M36 19 4 = M 19 4) := eM36_19_4.trans q19_4_M32
        have q19_6_M36 : id (M36 19 6 = M 19 6) := eM36_19_6.trans q19_6_M32
        have q29_0_M36 : id (M36 29 0 = M 29 0) := eM36_29_0.trans q29_0_M32
        have q29_1_M36 : id (M36 29 1 = M 29 1) := eM36_29_1.trans q29_1_M32
        have q0_11_M36 : id (M36 0 11 = M 0 11) := eM36_0_11.trans q0_11_M32
        have wM36_31_1 : M36 31 1 = M32 31 1 := eM36_31_1
        have wM36_2_5 : M36 2 5 = M32 2 5 := eM36_2_5
        have wM36_0_12 : M36 0 12 = M32 0 12 := eM36_0_12
        have wM36_0_13 : M36 0 13 = M32 0 13 := eM36_0_13
        have xM36_0_12 : M36 0 12 = (-1) := eM36_0_12.trans xM32_0_12
        have xM36_31_1 : M36 31 1 = 0 := eM36_31_1.trans xM32_31_1
        have xM36_0_13 : M36 0 13 = (-1) := eM36_0_13.trans xM32_0_13
        clear eM36_1_2 eM36_1_4 eM36_1_6 eM36_11_5 eM36_10_2 eM36_10_4 eM36_10_6 eM36_20_5 eM36_19_2 eM36_19_4 eM36_19_6 eM36_29_0 eM36_29_1 eM36_0_11
        refine g_ireturn dX9_evening_93 ?_
        exact ⟨iM36, fM36, q1_2_M36, q1_4_M36, q1_6_M36, q11_5_M36, q10_2_M36, q10_4_M36, q10_6_M36, q20_5_M36, q19_2_M36, q19_4_M36, q19_6_M36, q29_0_M36, q29_1_M36, q0_11_M36, by omega, by rw [show M36 0 12 = (-1) by omega]; exact fe⟩
      · refine g_aload_n (pc' := 78) 2 dX9_evening_77 rfl rfl ?_
        refine g_aload_n (pc' := 79) 2 dX9_evening_78 rfl rfl ?_
        refine g_getR (pc' := 82) dX9_evening_79 rfl f_X9_39 rfl rfl ?_
        refine g_getI (pc' := 85) dX9_evening_82 rfl f_X9_180 rfl rfl (fun v37 ev37 rv37 => ?_)
        refine g_putI (pc' := 88) dX9_evening_85 rfl p_X9_72 rfl rfl rv37 (fun M38 hM38 => ?_)
        have iM38 : IC M38 := IC.wr iM32 hM38 (by unfold okw isT; first | decide | omega)
        have fM38 : Fr (fun c => (2 ≤ c ∧ c ≤ 6) ∨ (30 ≤ c ∧ c ≤ 59) ∨ c = 0 ∨ c = 96) M M38 := Fr.wr fM32 hM38 (by first | decide | omega | (dsimp only; omega))
        have q1_2_M38 : id (M38 1 2 = M 1 2) := (show M38 1 2 = M32 1 2 by rw [hM38]; exact mu_ne _ _ (by first | decide | omega)).trans q1_2_M32
        have q1_4_M38 : id (M38 1 4 = M 1 4) := (show M38 1 4 = M32 1 4 by rw [hM38]; exact mu_ne _ _ (by first | decide | omega)).trans q1_4_M32
        have q1_6_M38 : id (M38 1 6 = M 1 6) := (show M38 1 6 = M32 1 6 by rw [hM38]; exact mu_ne _ _ (by first | decide | omega)).trans q1_6_M32
        have q11_5_M38 : id (M38 11 5 = M 11 5) := (show M38 11 5 = M32 11 5 by rw [hM38]; exact mu_ne _ _ (by first | decide | omega)).trans q11_5_M32
        have q10_2_M38 : id (M38 10 2 = M 10 2) := (show M38 10 2 = M32 10 2 by rw [hM38]; exact mu_ne _ _ (by first | decide | omega)).trans q10_2_M32
        have q10_4_M38 : id (M38 10 4 = M 10 4) := (show M38 10 4 = M32 10 4 by rw [hM38]; exact mu_ne _ _ (by first | decide | omega)).trans q10_4_M32
        have q10_6_M38 : id (M38 10 6 = M 10 6) := (show M38 10 6 = M32 10 6 by rw [hM38]; exact mu_ne _ _ (by first | decide | omega)).trans q10_6_M32
        have q20_5_M38 : id (M38 20 5 = M 20 5) := (show M38 20 5 = M32 20 5 by rw [hM38]; exact mu_ne _ _ (by first | decide | omega)).trans q20_5_M32
        have q19_2_M38 : id (M38 19 2 = M 19 2) := (show M38 19 2 = M32 19 2 by rw [hM38]; exact mu_ne _ _ (by first | decide | omega)).trans q19_2_M32
        have q19_4_M38 : id (M38 19 4 = M 19 4) := (show M38 19 4 = M32 19 4 by rw [hM38]; exact mu_ne _ _ (by first | decide | omega)).trans q19_4_M32
        have q19_6_M38 : id (M38 19 6 = M 19 6) := (show M38 19 6 = M32 19 6 by rw [hM38]; exact mu_ne _ _ (by first | decide | omega)).trans q19_6_M32
        have q29_0_M38 : id (M38 29 0 = M 29 0) := (show M38 29 0 = M32 29 0 by rw [hM38]; exact mu_ne _ _ (by first | decide | omega)).trans q29_0_M32
        have q29_1_M38 : id (M38 29 1 = M 29 1) := (show M38 29 1 = M32 29 1 by rw [hM38]; exact mu_ne _ _ (by first | decide | omega)).trans q29_1_M32
        have q0_11_M38 : id (M38 0 11 = M 0 11) := (show M38 0 11 = M32 0 11 by rw [hM38]; exact mu_ne _ _ (by first | decide | omega)).trans q0_11_M32
        have q0_10_M38 : (M38 0 10 = M 0 10) := (show M38 0 10 = M32 0 10 by rw [hM38]; exact mu_ne _ _ (by first | decide | omega)).trans q0_10_M32
        have wM38_31_1 : M38 31 1 = M32 31 1 := by rw [hM38]; exact mu_ne _ _ (by first | decide | omega)
        have wM38_2_5 : M38 2 5 = M32 2 5 := by rw [hM38]; exact mu_ne _ _ (by first | decide | omega)
        have wM38_0_12 : M38 0 12 = M32 0 12 := by rw [hM38]; exact mu_ne _ _ (by first | decide | omega)
        have wM38_0_10 : M38 0 10 = M32 0 10 := by rw [hM38]; exact mu_ne _ _ (by first | decide | omega)
        have xM38_0_12 : M38 0 12 = (-1) := (show M38 0 12 = M32 0 12 by rw [hM38]; exact mu_ne _ _ (by first | decide | omega)).trans xM32_0_12
        have xM38_31_1 : M38 31 1 = 0 := (show M38 31 1 = M32 31 1 by rw [hM38]; exact mu_ne _ _ (by first | decide | omega)).trans xM32_31_1
        have xM38_0_13 : M38 0 13 = v37 := by rw [hM38]; exact mu_at _ _ _ _
        refine g_aload_n (pc' := 89) 2 dX9_evening_88 rfl rfl ?_
        refine g_iload_n (pc' := 90) 0 dX9_evening_89 rfl rfl ?_
        refine g_callVi (pc' := 93) (As := [vi z31]) (b := 0) (S := []) dX9_evening_90 rfl m_X9_79 w_X9_answered (c_X9_answered X M38 iM38 z31 ⟨by omega, by omega⟩) rfl ⟨_, _, _, rfl, rfl, rfl⟩ (by decide) (by decide) rfl (Nat.le_of_ble_eq_true rfl) (fun z40 M41 q39 => ?_)
        obtain ⟨iM41, fM410, eM41_2_5, eM41_1_2, eM41_1_4, eM41_1_6, eM41_11_5, eM41_10_2, eM41_10_4, eM41_10_6, eM41_20_5, eM41_19_2, eM41_19_4, eM41_19_6, eM41_29_0, eM41_29_1, eM41_31_1, eM41_0_11, eM41_0_12, eM41_0_13, pM41⟩ := q39
        have fM41 : Fr (fun c => (2 ≤ c ∧ c ≤ 6) ∨ (30 ≤ c ∧ c ≤ 59) ∨ c = 0 ∨ c = 96) M M41 := Fr.tr fM38 fM410 fi_15
        have q1_2_M41 : id (M41 1 2 = M 1 2) := eM41_1_2.trans q1_2_M38
        have q1_4_M41 : id (M41 1 4 = M 1 4) := eM41_1_4.trans q1_4_M38
        have q1_6_M41 : id (M41 1 6 = M 1 6) := eM41_1_6.trans q1_6_M38
        have q11_5_M41 : id (M41 11 5 = M 11 5) := eM41_11_5.trans q11_5_M38
        have q10_2_M41 : id (M41 10 2 = M 10 2) := eM41_10_2.trans q10_2_M38
        have q10_4_M41 : id (M41 10 4 = M 10 4) := eM41_10_4.trans q10_4_M38
        have q10_6_M41 : id (M41 10 6 = M 10 6) := eM41_10_6.trans q10_6_M38
        have q20_5_M41 : id (M41 20 5 = M 20 5) := eM41_20_5.trans q20_5_M38
        have q19_2_M41 : id (M41 19 2 = M 19 2) := eM41_19_2.trans q19_2_M38
        have q19_4_M41 : id (M41 19 4 = M 19 4) := eM41_19_4.trans q19_4_M38
        have q19_6_M41 : id (M41 19 6 = M 19 6) := eM41_19_6.trans q19_6_M38
        have q29_0_M41 : id (M41 29 0 = M 29 0) := eM41_29_0.trans q29_0_M38
        have q29_1_M41 : id (M41 29 1 = M 29 1) := eM41_29_1.trans q29_1_M38
        have q0_11_M41 : id (M41 0 11 = M 0 11) := eM41_0_11.trans q0_11_M38
        have wM41_31_1 : M41 31 1 = M38 31 1 := eM41_31_1
        have wM41_2_5 : M41 2 5 = M38 2 5 := eM41_2_5
        have wM41_0_12 : M41 0 12 = M38 0 12 := eM41_0_12
        have wM41_0_13 : M41 0 13 = M38 0 13 := eM41_0_13
        have xM41_0_12 : M41 0 12 = (-1) := eM41_0_12.trans xM38_0_12
        have xM41_31_1 : M41 31 1 = 0 := eM41_31_1.trans xM38_31_1
        have xM41_0_13 : M41 0 13 = v37 := eM41_0_13.trans xM38_0_13
        clear eM41_1_2 eM41_1_4 eM41_1_6 eM41_11_5 eM41_10_2 eM41_10_4 eM41_10_6 eM41_20_5 eM41_19_2 eM41_19_4 eM41_19_6 eM41_29_0 eM41_29_1 eM41_0_11
        refine g_ireturn dX9_evening_93 ?_
        exact ⟨iM41, fM41, q1_2_M41, q1_4_M41, q1_6_M41, q11_5_M41, q10_2_M41, q10_4_M41, q10_6_M41, q20_5_M41, q19_2_M41, q19_4_M41, q19_6_M41, q29_0_M41, q29_1_M41, q0_11_M41, by omega, by rw [show M41 0 12 = (-1) by omega]; exact fe⟩
    · refine g_aload_n (pc' := 45) 1 dX9_evening_44 rfl rfl ?_
      refine g_bipush (pc' := 47) (v := (-6)) dX9_evening_45 rfl (by decide) ?_
      refine g_callVi (pc' := 50) (As := [vi (-6)]) (b := 0) (S := []) dX9_evening_47 rfl m_X9_79 w_X9_answered (c_X9_answered X M28 iM28 (-6) (by decide)) rfl ⟨_, _, _, rfl, rfl, rfl⟩ (by decide) (by decide) rfl (Nat.le_of_ble_eq_true rfl) (fun z43 M44 q42 => ?_)
      obtain ⟨iM44, fM440, eM44_2_5, eM44_1_2, eM44_1_4, eM44_1_6, eM44_11_5, eM44_10_2, eM44_10_4, eM44_10_6, eM44_20_5, eM44_19_2, eM44_19_4, eM44_19_6, eM44_29_0, eM44_29_1, eM44_31_1, eM44_0_11, eM44_0_12, eM44_0_13, pM44⟩ := q42
      have fM44 : Fr (fun c => (2 ≤ c ∧ c ≤ 6) ∨ (30 ≤ c ∧ c ≤ 59) ∨ c = 0 ∨ c = 96) M M44 := Fr.tr fM28 fM440 fi_15
      have q1_2_M44 : id (M44 1 2 = M 1 2) := eM44_1_2.trans q1_2_M28
      have q1_4_M44 : id (M44 1 4 = M 1 4) := eM44_1_4.trans q1_4_M28
      have q1_6_M44 : id (M44 1 6 = M 1 6) := eM44_1_6.trans q1_6_M28
      have q11_5_M44 : id (M44 11 5 = M 11 5) := eM44_11_5.trans q11_5_M28
      have q10_2_M44 : id (M44 10 2 = M 10 2) := eM44_10_2.trans q10_2_M28
      have q10_4_M44 : id (M44 10 4 = M 10 4) := eM44_10_4.trans q10_4_M28
      have q10_6_M44 : id (M44 10 6 = M 10 6) := eM44_10_6.trans q10_6_M28
      have q20_5_M44 : id (M44 20 5 = M 20 5) := eM44_20_5.trans q20_5_M28
      have q19_2_M44 : id (M44 19 2 = M 19 2) := eM44_19_2.trans q19_2_M28
      have q19_4_M44 : id (M44 19 4 = M 19 4) := eM44_19_4.trans q19_4_M28
      have q19_6_M44 : id (M44 19 6 = M 19 6) := eM44_19_6.trans q19_6_M28
      have q29_0_M44 : id (M44 29 0 = M 29 0) := eM44_29_0.trans q29_0_M28
      have q29_1_M44 : id (M44 29 1 = M 29 1) := eM44_29_1.trans q29_1_M28
      have q0_11_M44 : id (M44 0 11 = M 0 11) := eM44_0_11.trans q0_11_M28
      have q2_5_M44 : (M44 2 5 = M 2 5) := eM44_2_5.trans q2_5_M28
      have wM44_31_1 : M44 31 1 = M28 31 1 := eM44_31_1
      have wM44_2_5 : M44 2 5 = M28 2 5 := eM44_2_5
      have wM44_0_12 : M44 0 12 = M28 0 12 := eM44_0_12
      have wM44_0_13 : M44 0 13 = M28 0 13 := eM44_0_13
      have xM44_0_12 : M44 0 12 = (-1) := eM44_0_12.trans xM28_0_12
      have xM44_31_1 : M44 31 1 = 0 := eM44_31_1.trans xM28_31_1
      have xM44_0_13 : M44 0 13 = (-1) := eM44_0_13.trans xM28_0_13
      clear eM44_1_2 eM44_1_4 eM44_1_6 eM44_11_5 eM44_10_2 eM44_10_4 eM44_10_6 eM44_20_5 eM44_19_2 eM44_19_4 eM44_19_6 eM44_29_0 eM44_29_1 eM44_0_11
      refine g_ireturn dX9_evening_50 ?_
      exact ⟨iM44, fM44, q1_2_M44, q1_4_M44, q1_6_M44, q11_5_M44, q10_2_M44, q10_4_M44, q10_6_M44, q20_5_M44, q19_2_M44, q19_4_M44, q19_6_M44, q29_0_M44, q29_1_M44, q0_11_M44, by omega, by rw [show M44 0 12 = (-1) by omega]; exact fe⟩
set_option maxHeartbeats 4000000 in
set_option maxRecDepth 100000 in
theorem l_X8_append_x_3 (X : Cx) (M : Mm) (hi : IC M) (a : Int) (ha : inI a) (hl : 0 ≤ M 31 1 ∧ M 31 1 ≤ 396) : ∀ (kk : Nat) (s : Int) (M1 : Mm) (ic1 : IC M1) (fr1 : Fr (fun c => c = 31 ∨ c = 32) M M1) (hs : s = 24 ∨ s = 16 ∨ s = 8 ∨ s = 0 ∨ s = -8) (ht : 8 * (M1 31 1 - M 31 1) = 24 - s) (by1 : BYp (M 32) (M1 32) (M 31 1) a s), (s + 8).toNat = kk → G X 0 RX8 cX8_append 3 none (Qv (fun M1 => IC M1 ∧ Fr (fun c => c = 31 ∨ c = 32) M M1 ∧ (BYT (M 32) (M1 32) (M 31 1) a ∧ M1 31 1 = M 31 1 + 4))) 3 [(2, vi s), (0, vr X 31), (1, vi a)] [] M1 := by
  intro kk
  induction kk using Nat.strongRecOn with
  | ind kk ih =>
    intro s M1 ic1 fr1 hs ht by1 hmes
    refine g_iload_n (pc' := 4) 0 dX8_append_3 rfl rfl ?_
    refine g_if_lt (pc' := 7) (tgt := 49) ⟨by omega, by omega⟩ dX8_append_4 rfl rfl (fun c1 => ?_) (fun c1 => ?_)
    · refine g_vreturn dX8_append_49 ?_
      exact ⟨ic1, fr1, by1.e (by omega), by omega⟩
    · refine g_aload_n (pc' := 8) 1 dX8_append_7 rfl rfl ?_
      refine g_getI (pc' := 11) dX8_append_8 rfl f_X8_27 rfl rfl (fun v2 ev2 rv2 => ?_)
      have bv2 : 0 ≤ v2 ∧ v2 ≤ 400 := by rw [ev2]; exact ic1.2.2.1.1
      refine g_sipush (pc' := 14) (v := 400) dX8_append_11 rfl (by decide) ?_
      refine g_ic_ge (pc' := 17) (tgt := 49) rv2 (by decide) dX8_append_14 rfl rfl (fun c3 => ?_) (fun c3 => ?_)
      · refine g_vreturn dX8_append_49 ?_
        exact ⟨ic1, fr1, by1.e (by omega), by omega⟩
      · refine g_aload_n (pc' := 18) 1 dX8_append_17 rfl rfl ?_
        refine g_getR (pc' := 21) dX8_append_18 rfl f_X8_9 rfl rfl ?_
        refine g_aload_n (pc' := 22) 1 dX8_append_21 rfl rfl ?_
        refine g_getI (pc' := 25) dX8_append_22 rfl f_X8_27 rfl rfl (fun v4 ev4 rv4 => ?_)
        obtain rfl : v2 = v4 := ev2.trans ev4.symm
        refine g_iload_n (pc' := 26) 2 dX8_append_25 rfl rfl ?_
        refine g_iload_n (pc' := 27) 0 dX8_append_26 rfl rfl ?_
        refine g_ishr (pc' := 28) dX8_append_27 rfl (fun r5 => ?_)
        refine g_sipush (pc' := 31) (v := 255) dX8_append_28 rfl (by decide) ?_
        refine g_iand (pc' := 32) dX8_append_31 rfl (fun r6 => ?_)
        refine g_iast (pc' := 33) dX8_append_32 rfl rfl (by omega) (by omega) r6 (fun M7 hM7 => ?_)
        have iM7 : IC M7 := IC.wr ic1 hM7 (by unfold okw isT; first | decide | omega)
        have fM7 : Fr (fun c => c = 31 ∨ c = 32) M M7 := Fr.wr fr1 hM7 (by first | decide | omega | (dsimp only; omega))
        have wM7_31_1 : M7 31 1 = M1 31 1 := by rw [hM7]; exact mu_ne _ _ (by first | decide | omega)
        have byM7 : BYp (M 32) (M7 32) (M 31 1) a (s + -8) := BYp.s by1 (by omega) (by omega) (by omega) (show M7 32 = ms (M1 32) (M1 31 1).toNat (oand (oshr a s) 255) by rw [hM7, mu_is]; first | rfl | (congr 1; omega) | (congr 2; omega))
        refine g_aload_n (pc' := 34) 1 dX8_append_33 rfl rfl ?_
        refine g_dup (pc' := 35) dX8_append_34 rfl rfl ?_
        refine g_getI (pc' := 38) dX8_append_35 rfl f_X8_27 rfl rfl (fun v8 ev8 rv8 => ?_)
        have bv8 : 0 ≤ v8 ∧ v8 ≤ 400 := by rw [ev8]; exact iM7.2.2.1.1
        refine g_iconst (pc' := 39) dX8_append_38 rfl ?_
        refine g_iadd (pc' := 40) dX8_append_39 rfl ?_
        refine g_putI (pc' := 43) dX8_append_40 rfl p_X8_27 rfl rfl ⟨by omega, by omega⟩ (fun M9 hM9 => ?_)
        have iM9 : IC M9 := IC.wr iM7 hM9 (by unfold okw isT; first | decide | omega)
        have fM9 : Fr (fun c => c = 31 ∨ c = 32) M M9 := Fr.wr fM7 hM9 (by first | decide | omega | (dsimp only; omega))
        have xM9_31_1 : M9 31 1 = v8 + 1 := by rw [hM9]; exact mu_at _ _ _ _
        have byM9 : BYp (M 32) (M9 32) (M 31 1) a (s + -8) := by rw [hM9, mu_cell _ _ (by decide)]; exact byM7
        refine g_iinc (pc' := 46) (L' := [(2, vi (s + (-8))), (0, vr X 31), (1, vi a)]) 0 dX8_append_43 rfl rfl (by decide) rfl ?_
        refine g_goto (tgt := 3) dX8_append_46 rfl ?_
        refine g_sub [0, 1, 2] rfl ?_
        exact ih _ (by omega) (s + (-8)) M9 iM9 fM9 (by omega) (by omega) byM9 rfl
set_option maxHeartbeats 4000000 in
set_option maxRecDepth 100000 in
theorem c_X8_append_x (X : Cx) (M : Mm) (hi : IC M) (a : Int) (ha : inI a) (hl : 0 ≤ M 31 1 ∧ M 31 1 ≤ 396) : Con X 0 yX8_append cX8_append 3 none [vr X 31, vi a] M (Qv (fun M1 => IC M1 ∧ Fr (fun c => c = 31 ∨ c = 32) M M1 ∧ (BYT (M 32) (M1 32) (M 31 1) a ∧ M1 31 1 = M 31 1 + 4))) := by
  refine Con.ofG rfl (Nat.le_of_ble_eq_true rfl) ?_
  show G X 0 RX8 cX8_append 3 none (Qv (fun M1 => IC M1 ∧ Fr (fun c => c = 31 ∨ c = 32) M M1 ∧ (BYT (M 32) (M1 32) (M 31 1) a ∧ M1 31 1 = M 31 1 + 4))) 0 [(0, vr X 31), (1, vi a)] [] M
  refine g_bipush (pc' := 2) (v := 24) dX8_append_0 rfl (by decide) ?_
  refine g_istore_n (pc' := 3) (i := 2) (L' := [(2, vi 24), (0, vr X 31), (1, vi a)]) dX8_append_2 rfl rfl (by decide) rfl ?_
  refine g_sub [0, 1, 2] rfl ?_
  exact l_X8_append_x_3 X M hi a ha hl _ 24 M hi Fr.rf (by omega) (by omega) (BYp.z _ _ _) rfl
set_option maxHeartbeats 4000000 in
set_option maxRecDepth 100000 in
theorem c_X9_feed_x (X : Cx) (M : Mm) (hi : IC M) (a : Int) (ha : inI a) (b : Int) (hb : inI b) (c : Int) (hc : inI c) (e1 : Int) (he1 : inI e1) (e2 : Int) (he2 : inI e2) : Con X 2 yX9_feed cX9_feed 6 (some .int) [vr X 0, vi a, vi b, vi c, vi e1, vi e2] M (Qi (fun r M1 => IC M1 ∧ Fr (fun c => c = 31 ∨ c = 32) M M1 ∧ M1 2 5 = M 2 5 ∧ M1 1 2 = M 1 2 ∧ M1 1 4 = M 1 4 ∧ M1 1 6 = M 1 6 ∧ M1 11 5 = M 11 5 ∧ M1 10 2 = M 10 2 ∧ M1 10 4 = M 10 4 ∧ M1 10 6 = M 10 6 ∧ M1 20 5 = M 20 5 ∧ M1 19 2 = M 19 2 ∧ M1 19 4 = M 19 4 ∧ M1 19 6 = M 19 6 ∧ M1 29 0 = M 29 0 ∧ M1 29 1 = M 29 1 ∧ M1 0 11 = M 0 11 ∧ M1 0 12 = M 0 12 ∧ M1 0 13 = M 0 13 ∧ M1 0 10 = M 0 10 ∧ (((M 31 1 ≤ 380 → r = M 31 1 + 20 ∧ M1 31 1 = M 31 1 + 20) ∧ (380 < M 31 1 → r = -1 ∧ M1 31 1 = M 31 1)) ∧ FEX (M 32) (M1 32) (M 31 1) a b c e1 e2))) := by
  refine Con.ofG rfl (Nat.le_of_ble_eq_true rfl) ?_
  show G X 2 RX9 cX9_feed 6 (some .int) (Qi (fun r M1 => IC M1 ∧ Fr (fun c => c = 31 ∨ c = 32) M M1 ∧ M1 2 5 = M 2 5 ∧ M1 1 2 = M 1 2 ∧ M1 1 4 = M 1 4 ∧ M1 1 6 = M 1 6 ∧ M1 11 5 = M 11 5 ∧ M1 10 2 = M 10 2 ∧ M1 10 4 = M 10 4 ∧ M1 10 6 = M 10 6 ∧ M1 20 5 = M 20 5 ∧ M1 19 2 = M 19 2 ∧ M1 19 4 = M 19 4 ∧ M1 19 6 = M 19 6 ∧ M1 29 0 = M 29 0 ∧ M1 29 1 = M 29 1 ∧ M1 0 11 = M 0 11 ∧ M1 0 12 = M 0 12 ∧ M1 0 13 = M 0 13 ∧ M1 0 10 = M 0 10 ∧ (((M 31 1 ≤ 380 → r = M 31 1 + 20 ∧ M1 31 1 = M 31 1 + 20) ∧ (380 < M 31 1 → r = -1 ∧ M1 31 1 = M 31 1)) ∧ FEX (M 32) (M1 32) (M 31 1) a b c e1 e2))) 0 [(0, vr X 0), (1, vi a), (2, vi b), (3, vi c), (4, vi e1), (5, vi e2)] [] M
  refine g_aload_n (pc' := 1) 0 dX9_feed_0 rfl rfl ?_
  refine g_getR (pc' := 4) dX9_feed_1 rfl f_X9_35 rfl rfl ?_
  refine g_getI (pc' := 7) dX9_feed_4 rfl f_X9_147 rfl rfl (fun v1 ev1 rv1 => ?_)
  have bv1 : 0 ≤ v1 ∧ v1 ≤ 400 := by rw [ev1]; exact hi.2.2.1.1
  have av1 : v1 = M 31 1 := ev1
  refine g_bipush (pc' := 9) (v := 20) dX9_feed_7 rfl (by decide) ?_
  refine g_iadd (pc' := 10) dX9_feed_9 rfl ?_
  refine g_sipush (pc' := 13) (v := 400) dX9_feed_10 rfl (by decide) ?_
  refine g_ic_le (pc' := 16) (tgt := 18) ⟨by omega, by omega⟩ (by decide) dX9_feed_13 rfl rfl (fun c2 => ?_) (fun c2 => ?_)
  · refine g_aload_n (pc' := 19) 0 dX9_feed_18 rfl rfl ?_
    refine g_getR (pc' := 22) dX9_feed_19 rfl f_X9_35 rfl rfl ?_
    refine g_iload_n (pc' := 23) 1 dX9_feed_22 rfl rfl ?_
    refine g_callVv (pc' := 26) (As := [vi a]) (b := 31) (S := []) dX9_feed_23 rfl m_X9_152 w_X8_append (c_X8_append_x X M hi a ha (by omega)) rfl ⟨_, _, _, rfl, rfl, rfl⟩ (by decide) (by decide) rfl (Nat.le_of_ble_eq_true rfl) (fun M4 q3 => ?_)
    obtain ⟨iM4, fM40, pM4⟩ := q3
    have fM4 : Fr (fun c => c = 31 ∨ c = 32) M M4 := Fr.tr Fr.rf fM40 (fun _ z => z)
    have q2_5_M4 : id (M4 2 5 = M 2 5) := (congrFun (fM40 2 (by first | decide | omega | (dsimp only; omega))) 5)
    have q1_2_M4 : id (M4 1 2 = M 1 2) := (congrFun (fM40 1 (by first | decide | omega | (dsimp only; omega))) 2)
    have q1_4_M4 : id (M4 1 4 = M 1 4) := (congrFun (fM40 1 (by first | decide | omega | (dsimp only; omega))) 4)
    have q1_6_M4 : id (M4 1 6 = M 1 6) := (congrFun (fM40 1 (by first | decide | omega | (dsimp only; omega))) 6)
    have q11_5_M4 : id (M4 11 5 = M 11 5) := (congrFun (fM40 11 (by first | decide | omega | (dsimp only; omega))) 5)
    have q10_2_M4 : id (M4 10 2 = M 10 2) := (congrFun (fM40 10 (by first | decide | omega | (dsimp only; omega))) 2)
    have q10_4_M4 : id (M4 10 4 = M 10 4) := (congrFun (fM40 10 (by first | decide | omega | (dsimp only; omega))) 4)
    have q10_6_M4 : id (M4 10 6 = M 10 6) := (congrFun (fM40 10 (by first | decide | omega | (dsimp only; omega))) 6)
    have q20_5_M4 : id (M4 20 5 = M 20 5) := (congrFun (fM40 20 (by first | decide | omega | (dsimp only; omega))) 5)
    have q19_2_M4 : id (M4 19 2 = M 19 2) := (congrFun (fM40 19 (by first | decide | omega | (dsimp only; omega))) 2)
    have q19_4_M4 : id (M4 19 4 = M 19 4) := (congrFun (fM40 19 (by first | decide | omega | (dsimp only; omega))) 4)
    have q19_6_M4 : id (M4 19 6 = M 19 6) := (congrFun (fM40 19 (by first | decide | omega | (dsimp only; omega))) 6)
    have q29_0_M4 : id (M4 29 0 = M 29 0) := (congrFun (fM40 29 (by first | decide | omega | (dsimp only; omega))) 0)
    have q29_1_M4 : id (M4 29 1 = M 29 1) := (congrFun (fM40 29 (by first | decide | omega | (dsimp only; omega))) 1)
    have q0_11_M4 : id (M4 0 11 = M 0 11) := (congrFun (fM40 0 (by first | decide | omega | (dsimp only; omega))) 11)
    have q0_12_M4 : id (M4 0 12 = M 0 12) := (congrFun (fM40 0 (by first | decide | omega | (dsimp only; omega))) 12)
    have q0_13_M4 : id (M4 0 13 = M 0 13) := (congrFun (fM40 0 (by first | decide | omega | (dsimp only; omega))) 13)
    have q0_10_M4 : id (M4 0 10 = M 0 10) := (congrFun (fM40 0 (by first | decide | omega | (dsimp only; omega))) 10)
    obtain ⟨byM4, pnM4⟩ := pM4
    rw [show M 31 1 = M 31 1 + 0 by omega] at byM4
    rw [Int.add_zero] at byM4
    refine g_aload_n (pc' := 27) 0 dX9_feed_26 rfl rfl ?_
    refine g_getR (pc' := 30) dX9_feed_27 rfl f_X9_35 rfl rfl ?_
    refine g_iload_n (pc' := 31) 2 dX9_feed_30 rfl rfl ?_
    refine g_callVv (pc' := 34) (As := [vi b]) (b := 31) (S := []) dX9_feed_31 rfl m_X9_152 w_X8_append (c_X8_append_x X M4 iM4 b hb (by omega)) rfl ⟨_, _, _, rfl, rfl, rfl⟩ (by decide) (by decide) rfl (Nat.le_of_ble_eq_true rfl) (fun M6 q5 => ?_)
    obtain ⟨iM6, fM60, pM6⟩ := q5
    have fM6 : Fr (fun c => c = 31 ∨ c = 32) M M6 := Fr.tr fM4 fM60 (fun _ z => z)
    have q2_5_M6 : id (M6 2 5 = M 2 5) := (congrFun (fM60 2 (by first | decide | omega | (dsimp only; omega))) 5).trans q2_5_M4
    have q1_2_M6 : id (M6 1 2 = M 1 2) := (congrFun (fM60 1 (by first | decide | omega | (dsimp only; omega))) 2).trans q1_2_M4
    have q1_4_M6 : id (M6 1 4 = M 1 4) := (congrFun (fM60 1 (by first | decide | omega | (dsimp only; omega))) 4).trans q1_4_M4
    have q1_6_M6 : id (M6 1 6 = M 1 6) := (congrFun (fM60 1 (by first | decide | omega | (dsimp only; omega))) 6).trans q1_6_M4
    have q11_5_M6 : id (M6 11 5 = M 11 5) := (congrFun (fM60 11 (by first | decide | omega | (dsimp only; omega))) 5).trans q11_5_M4
    have q10_2_M6 : id (M6 10 2 = M 10 2) := (congrFun (fM60 10 (by first | decide | omega | (dsimp only; omega))) 2).trans q10_2_M4
    have q10_4_M6 : id (M6 10 4 = M 10 4) := (congrFun (fM60 10 (by first | decide | omega | (dsimp only; omega))) 4).trans q10_4_M4
    have q10_6_M6 : id (M6 10 6 = M 10 6) := (congrFun (fM60 10 (by first | decide | omega | (dsimp only; omega))) 6).trans q10_6_M4
    have q20_5_M6 : id (M6 20 5 = M 20 5) := (congrFun (fM60 20 (by first | decide | omega | (dsimp only; omega))) 5).trans q20_5_M4
    have q19_2_M6 : id (M6 19 2 = M 19 2) := (congrFun (fM60 19 (by first | decide | omega | (dsimp only; omega))) 2).trans q19_2_M4
    have q19_4_M6 : id (M6 19 4 = M 19 4) := (congrFun (fM60 19 (by first | decide | omega | (dsimp only; omega))) 4).trans q19_4_M4
    have q19_6_M6 : id (M6 19 6 = M 19 6) := (congrFun (fM60 19 (by first | decide | omega | (dsimp only; omega))) 6).trans q19_6_M4
    have q29_0_M6 : id (M6 29 0 = M 29 0) := (congrFun (fM60 29 (by first | decide | omega | (dsimp only; omega))) 0).trans q29_0_M4
    have q29_1_M6 : id (M6 29 1 = M 29 1) := (congrFun (fM60 29 (by first | decide | omega | (dsimp only; omega))) 1).trans q29_1_M4
    have q0_11_M6 : id (M6 0 11 = M 0 11) := (congrFun (fM60 0 (by first | decide | omega | (dsimp only; omega))) 11).trans q0_11_M4
    have q0_12_M6 : id (M6 0 12 = M 0 12) := (congrFun (fM60 0 (by first | decide | omega | (dsimp only; omega))) 12).trans q0_12_M4
    have q0_13_M6 : id (M6 0 13 = M 0 13) := (congrFun (fM60 0 (by first | decide | omega | (dsimp only; omega))) 13).trans q0_13_M4
    have q0_10_M6 : id (M6 0 10 = M 0 10) := (congrFun (fM60 0 (by first | decide | omega | (dsimp only; omega))) 10).trans q0_10_M4
    obtain ⟨byM6, pnM6⟩ := pM6
    rw [show M4 31 1 = M 31 1 + 4 by omega] at byM6
    refine g_aload_n (pc' := 35) 0 dX9_feed_34 rfl rfl ?_
    refine g_getR (pc' := 38) dX9_feed_35 rfl f_X9_35 rfl rfl ?_
    refine g_iload_n (pc' := 39) 3 dX9_feed_38 rfl rfl ?_
    refine g_callVv (pc' := 42) (As := [vi c]) (b := 31) (S := []) dX9_feed_39 rfl m_X9_152 w_X8_append (c_X8_append_x X M6 iM6 c hc (by omega)) rfl ⟨_, _, _, rfl, rfl, rfl⟩ (by decide) (by decide) rfl (Nat.le_of_ble_eq_true rfl) (fun M8 q7 => ?_)
    obtain ⟨iM8, fM80, pM8⟩ := q7
    have fM8 : Fr (fun c => c = 31 ∨ c = 32) M M8 := Fr.tr fM6 fM80 (fun _ z => z)
    have q2_5_M8 : id (M8 2 5 = M 2 5) := (congrFun (fM80 2 (by first | decide | omega | (dsimp only; omega))) 5).trans q2_5_M6
    have q1_2_M8 : id (M8 1 2 = M 1 2) := (congrFun (fM80 1 (by first | decide | omega | (dsimp only; omega))) 2).trans q1_2_M6
    have q1_4_M8 : id (M8 1 4 = M 1 4) := (congrFun (fM80 1 (by first | decide | omega | (dsimp only; omega))) 4).trans q1_4_M6
    have q1_6_M8 : id (M8 1 6 = M 1 6) := (congrFun (fM80 1 (by first | decide | omega | (dsimp only; omega))) 6).trans q1_6_M6
    have q11_5_M8 : id (M8 11 5 = M 11 5) := (congrFun (fM80 11 (by first | decide | omega | (dsimp only; omega))) 5).trans q11_5_M6
    have q10_2_M8 : id (M8 10 2 = M 10 2) := (congrFun (fM80 10 (by first | decide | omega | (dsimp only; omega))) 2).trans q10_2_M6
    have q10_4_M8 : id (M8 10 4 = M 10 4) := (congrFun (fM80 10 (by first | decide | omega | (dsimp only; omega))) 4).trans q10_4_M6
    have q10_6_M8 : id (M8 10 6 = M 10 6) := (congrFun (fM80 10 (by first | decide | omega | (dsimp only; omega))) 6).trans q10_6_M6
    have q20_5_M8 : id (M8 20 5 = M 20 5) := (congrFun (fM80 20 (by first | decide | omega | (dsimp only; omega))) 5).trans q20_5_M6
    have q19_2_M8 : id (M8 19 2 = M 19 2) := (congrFun (fM80 19 (by first | decide | omega | (dsimp only; omega))) 2).trans q19_2_M6
    have q19_4_M8 : id (M8 19 4 = M 19 4) := (congrFun (fM80 19 (by first | decide | omega | (dsimp only; omega))) 4).trans q19_4_M6
    have q19_6_M8 : id (M8 19 6 = M 19 6) := (congrFun (fM80 19 (by first | decide | omega | (dsimp only; omega))) 6).trans q19_6_M6
    have q29_0_M8 : id (M8 29 0 = M 29 0) := (congrFun (fM80 29 (by first | decide | omega | (dsimp only; omega))) 0).trans q29_0_M6
    have q29_1_M8 : id (M8 29 1 = M 29 1) := (congrFun (fM80 29 (by first | decide | omega | (dsimp only; omega))) 1).trans q29_1_M6
    have q0_11_M8 : id (M8 0 11 = M 0 11) := (congrFun (fM80 0 (by first | decide | omega | (dsimp only; omega))) 11).trans q0_11_M6
    have q0_12_M8 : id (M8 0 12 = M 0 12) := (congrFun (fM80 0 (by first | decide | omega | (dsimp only; omega))) 12).trans q0_12_M6
    have q0_13_M8 : id (M8 0 13 = M 0 13) := (congrFun (fM80 0 (by first | decide | omega | (dsimp only; omega))) 13).trans q0_13_M6
    have q0_10_M8 : id (M8 0 10 = M 0 10) := (congrFun (fM80 0 (by first | decide | omega | (dsimp only; omega))) 10).trans q0_10_M6
    obtain ⟨byM8, pnM8⟩ := pM8
    rw [show M6 31 1 = M 31 1 + 8 by omega] at byM8
    refine g_aload_n (pc' := 43) 0 dX9_feed_42 rfl rfl ?_
    refine g_getR (pc' := 46) dX9_feed_43 rfl f_X9_35 rfl rfl ?_
    refine g_iload (pc' := 48) 4 dX9_feed_46 rfl rfl ?_
    refine g_callVv (pc' := 51) (As := [vi e1]) (b := 31) (S := []) dX9_feed_48 rfl m_X9_152 w_X8_append (c_X8_append_x X M8 iM8 e1 he1 (by omega)) rfl ⟨_, _, _, rfl, rfl, rfl⟩ (by decide) (by decide) rfl (Nat.le_of_ble_eq_true rfl) (fun M10 q9 => ?_)
    obtain ⟨iM10, fM100, pM10⟩ := q9
    have fM10 : Fr (fun c => c = 31 ∨ c = 32) M M10 := Fr.tr fM8 fM100 (fun _ z => z)
    have q2_5_M10 : id (M10 2 5 = M 2 5) := (congrFun (fM100 2 (by first | decide | omega | (dsimp only; omega))) 5).trans q2_5_M8
    have q1_2_M10 : id (M10 1 2 = M 1 2) := (congrFun (fM100 1 (by first | decide | omega | (dsimp only; omega))) 2).trans q1_2_M8
    have q1_4_M10 : id (M10 1 4 = M 1 4) := (congrFun (fM100 1 (by first | decide | omega | (dsimp only; omega))) 4).trans q1_4_M8
    have q1_6_M10 : id (M10 1 6 = M 1 6) := (congrFun (fM100 1 (by first | decide | omega | (dsimp only; omega))) 6).trans q1_6_M8
    have q11_5_M10 : id (M10 11 5 = M 11 5) := (congrFun (fM100 11 (by first | decide | omega | (dsimp only; omega))) 5).trans q11_5_M8
    have q10_2_M10 : id (M10 10 2 = M 10 2) := (congrFun (fM100 10 (by first | decide | omega | (dsimp only; omega))) 2).trans q10_2_M8
    have q10_4_M10 : id (M10 10 4 = M 10 4) := (congrFun (fM100 10 (by first | decide | omega | (dsimp only; omega))) 4).trans q10_4_M8
    have q10_6_M10 : id (M10 10 6 = M 10 6) := (congrFun (fM100 10 (by first | decide | omega | (dsimp only; omega))) 6).trans q10_6_M8
    have q20_5_M10 : id (M10 20 5 = M 20 5) := (congrFun (fM100 20 (by first | decide | omega | (dsimp only; omega))) 5).trans q20_5_M8
    have q19_2_M10 : id (M10 19 2 = M 19 2) := (congrFun (fM100 19 (by first | decide | omega | (dsimp only; omega))) 2).trans q19_2_M8
    have q19_4_M10 : id (M10 19 4 = M 19 4) := (congrFun (fM100 19 (by first | decide | omega | (dsimp only; omega))) 4).trans q19_4_M8
    have q19_6_M10 : id (M10 19 6 = M 19 6) := (congrFun (fM100 19 (by first | decide | omega | (dsimp only; omega))) 6).trans q19_6_M8
    have q29_0_M10 : id (M10 29 0 = M 29 0) := (congrFun (fM100 29 (by first | decide | omega | (dsimp only; omega))) 0).trans q29_0_M8
    have q29_1_M10 : id (M10 29 1 = M 29 1) := (congrFun (fM100 29 (by first | decide | omega | (dsimp only; omega))) 1).trans q29_1_M8
    have q0_11_M10 : id (M10 0 11 = M 0 11) := (congrFun (fM100 0 (by first | decide | omega | (dsimp only; omega))) 11).trans q0_11_M8
    have q0_12_M10 : id (M10 0 12 = M 0 12) := (congrFun (fM100 0 (by first | decide | omega | (dsimp only; omega))) 12).trans q0_12_M8
    have q0_13_M10 : id (M10 0 13 = M 0 13) := (congrFun (fM100 0 (by first | decide | omega | (dsimp only; omega))) 13).trans q0_13_M8
    have q0_10_M10 : id (M10 0 10 = M 0 10) := (congrFun (fM100 0 (by first | decide | omega | (dsimp only; omega))) 10).trans q0_10_M8
    obtain ⟨byM10, pnM10⟩ := pM10
    rw [show M8 31 1 = M 31 1 + 12 by omega] at byM10
    refine g_aload_n (pc' := 52) 0 dX9_feed_51 rfl rfl ?_
    refine g_getR (pc' := 55) dX9_feed_52 rfl f_X9_35 rfl rfl ?_
    refine g_iload (pc' := 57) 5 dX9_feed_55 rfl rfl ?_
    refine g_callVv (pc' := 60) (As := [vi e2]) (b := 31) (S := []) dX9_feed_57 rfl m_X9_152 w_X8_append (c_X8_append_x X M10 iM10 e2 he2 (by omega)) rfl ⟨_, _, _, rfl, rfl, rfl⟩ (by decide) (by decide) rfl (Nat.le_of_ble_eq_true rfl) (fun M12 q11 => ?_)
    obtain ⟨iM12, fM120, pM12⟩ := q11
    have fM12 : Fr (fun c => c = 31 ∨ c = 32) M M12 := Fr.tr fM10 fM120 (fun _ z => z)
    have q2_5_M12 : id (M12 2 5 = M 2 5) := (congrFun (fM120 2 (by first | decide | omega | (dsimp only; omega))) 5).trans q2_5_M10
    have q1_2_M12 : id (M12 1 2 = M 1 2) := (congrFun (fM120 1 (by first | decide | omega | (dsimp only; omega))) 2).trans q1_2_M10
    have q1_4_M12 : id (M12 1 4 = M 1 4) := (congrFun (fM120 1 (by first | decide | omega | (dsimp only; omega))) 4).trans q1_4_M10
    have q1_6_M12 : id (M12 1 6 = M 1 6) := (congrFun (fM120 1 (by first | decide | omega | (dsimp only; omega))) 6).trans q1_6_M10
    have q11_5_M12 : id (M12 11 5 = M 11 5) := (congrFun (fM120 11 (by first | decide | omega | (dsimp only; omega))) 5).trans q11_5_M10
    have q10_2_M12 : id (M12 10 2 = M 10 2) := (congrFun (fM120 10 (by first | decide | omega | (dsimp only; omega))) 2).trans q10_2_M10
    have q10_4_M12 : id (M12 10 4 = M 10 4) := (congrFun (fM120 10 (by first | decide | omega | (dsimp only; omega))) 4).trans q10_4_M10
    have q10_6_M12 : id (M12 10 6 = M 10 6) := (congrFun (fM120 10 (by first | decide | omega | (dsimp only; omega))) 6).trans q10_6_M10
    have q20_5_M12 : id (M12 20 5 = M 20 5) := (congrFun (fM120 20 (by first | decide | omega | (dsimp only; omega))) 5).trans q20_5_M10
    have q19_2_M12 : id (M12 19 2 = M 19 2) := (congrFun (fM120 19 (by first | decide | omega | (dsimp only; omega))) 2).trans q19_2_M10
    have q19_4_M12 : id (M12 19 4 = M 19 4) := (congrFun (fM120 19 (by first | decide | omega | (dsimp only; omega))) 4).trans q19_4_M10
    have q19_6_M12 : id (M12 19 6 = M 19 6) := (congrFun (fM120 19 (by first | decide | omega | (dsimp only; omega))) 6).trans q19_6_M10
    have q29_0_M12 : id (M12 29 0 = M 29 0) := (congrFun (fM120 29 (by first | decide | omega | (dsimp only; omega))) 0).trans q29_0_M10
    have q29_1_M12 : id (M12 29 1 = M 29 1) := (congrFun (fM120 29 (by first | decide | omega | (dsimp only; omega))) 1).trans q29_1_M10
    have q0_11_M12 : id (M12 0 11 = M 0 11) := (congrFun (fM120 0 (by first | decide | omega | (dsimp only; omega))) 11).trans q0_11_M10
    have q0_12_M12 : id (M12 0 12 = M 0 12) := (congrFun (fM120 0 (by first | decide | omega | (dsimp only; omega))) 12).trans q0_12_M10
    have q0_13_M12 : id (M12 0 13 = M 0 13) := (congrFun (fM120 0 (by first | decide | omega | (dsimp only; omega))) 13).trans q0_13_M10
    have q0_10_M12 : id (M12 0 10 = M 0 10) := (congrFun (fM120 0 (by first | decide | omega | (dsimp only; omega))) 10).trans q0_10_M10
    obtain ⟨byM12, pnM12⟩ := pM12
    rw [show M10 31 1 = M 31 1 + 16 by omega] at byM12
    refine g_aload_n (pc' := 61) 0 dX9_feed_60 rfl rfl ?_
    refine g_getR (pc' := 64) dX9_feed_61 rfl f_X9_35 rfl rfl ?_
    refine g_getI (pc' := 67) dX9_feed_64 rfl f_X9_147 rfl rfl (fun v13 ev13 rv13 => ?_)
    have bv13 : 0 ≤ v13 ∧ v13 ≤ 400 := by rw [ev13]; exact iM12.2.2.1.1
    refine g_ireturn dX9_feed_67 ?_
    exact ⟨iM12, fM12, q2_5_M12, q1_2_M12, q1_4_M12, q1_6_M12, q11_5_M12, q10_2_M12, q10_4_M12, q10_6_M12, q20_5_M12, q19_2_M12, q19_4_M12, q19_6_M12, q29_0_M12, q29_1_M12, q0_11_M12, q0_12_M12, q0_13_M12, q0_10_M12, by omega, ⟨fun _ => ⟨M4 32, M6 32, M8 32, M10 32, byM4, byM6, byM8, byM10, byM12⟩, fun z => absurd z (by omega)⟩⟩
  · refine g_iconst (pc' := 17) dX9_feed_16 rfl ?_
    refine g_ireturn dX9_feed_17 ?_
    exact ⟨hi, Fr.rf, rfl, rfl, rfl, rfl, rfl, rfl, rfl, rfl, rfl, rfl, rfl, rfl, rfl, rfl, rfl, rfl, rfl, rfl, by omega, ⟨fun z => absurd z (by omega), fun _ => rfl⟩⟩
set_option maxHeartbeats 4000000 in
set_option maxRecDepth 100000 in
theorem l_X10_four_x_3 (X : Cx) (M : Mm) (hi : IM M) (a : Int) (ha : inI a) (hl : M 97 12 ≤ 396) : ∀ (kk : Nat) (s : Int) (M1 : Mm) (ic1 : IM M1) (fr1 : Fr (fun c => c = 97 ∨ c = 106) M M1) (q99_0 : (M1 99 0 = M 99 0)) (q99_1 : (M1 99 1 = M 99 1)) (q99_2 : (M1 99 2 = M 99 2)) (q99_3 : (M1 99 3 = M 99 3)) (q100_0 : id (M1 100 0 = M 100 0)) (q100_1 : id (M1 100 1 = M 100 1)) (q100_2 : id (M1 100 2 = M 100 2)) (q100_3 : id (M1 100 3 = M 100 3)) (q100_49 : id (M1 100 49 = M 100 49)) (q100_50 : id (M1 100 50 = M 100 50)) (q100_51 : id (M1 100 51 = M 100 51)) (q100_52 : id (M1 100 52 = M 100 52)) (q103_0 : id (M1 103 0 = M 103 0)) (q103_1 : id (M1 103 1 = M 103 1)) (q97_17 : (M1 97 17 = M 97 17)) (q97_33 : (M1 97 33 = M 97 33)) (q97_10 : (M1 97 10 = M 97 10)) (q97_44 : (M1 97 44 = M 97 44)) (q97_1 : (M1 97 1 = M 97 1)) (hs : s = 24 ∨ s = 16 ∨ s = 8 ∨ s = 0 ∨ s = -8) (ht : 8 * (M1 97 12 - M 97 12) = 24 - s) (by1 : BYp (M 106) (M1 106) (M 97 12) a s), (s + 8).toNat = kk → G X 0 RX10 cX10_four 3 none (Qv (fun M1 => IM M1 ∧ Fr (fun c => c = 97 ∨ c = 106) M M1 ∧ M1 99 0 = M 99 0 ∧ M1 99 1 = M 99 1 ∧ M1 99 2 = M 99 2 ∧ M1 99 3 = M 99 3 ∧ M1 100 0 = M 100 0 ∧ M1 100 1 = M 100 1 ∧ M1 100 2 = M 100 2 ∧ M1 100 3 = M 100 3 ∧ M1 100 49 = M 100 49 ∧ M1 100 50 = M 100 50 ∧ M1 100 51 = M 100 51 ∧ M1 100 52 = M 100 52 ∧ M1 103 0 = M 103 0 ∧ M1 103 1 = M 103 1 ∧ M1 97 17 = M 97 17 ∧ M1 97 33 = M 97 33 ∧ M1 97 10 = M 97 10 ∧ M1 97 44 = M 97 44 ∧ M1 97 1 = M 97 1 ∧ (BYT (M 106) (M1 106) (M 97 12) a ∧ M1 97 12 = M 97 12 + 4))) 3 [(2, vi s), (0, vr X 97), (1, vi a)] [] M1 := by
  intro kk
  induction kk using Nat.strongRecOn with
  | ind kk ih =>
    intro s M1 ic1 fr1 q99_0 q99_1 q99_2 q99_3 q100_0 q100_1 q100_2 q100_3 q100_49 q100_50 q100_51 q100_52 q103_0 q103_1 q97_17 q97_33 q97_10 q97_44 q97_1 hs ht by1 hmes
    have p0 := hi.1.1
    have p1 := hi.1.2.1
    have p2 := hi.1.2.2.1
    have p3 := hi.1.2.2.2.1
    have p12 := hi.2.2.2.1
    refine g_iload_n (pc' := 4) 0 dX10_four_3 rfl rfl ?_
    refine g_if_lt (pc' := 7) (tgt := 39) ⟨by omega, by omega⟩ dX10_four_4 rfl rfl (fun c1 => ?_) (fun c1 => ?_)
    · refine g_vreturn dX10_four_39 ?_
      exact ⟨ic1, fr1, q99_0, q99_1, q99_2, q99_3, q100_0, q100_1, q100_2, q100_3, q100_49, q100_50, q100_51, q100_52, q103_0, q103_1, q97_17, q97_33, q97_10, q97_44, q97_1, by1.e (by omega), by omega⟩
    · refine g_aload_n (pc' := 8) 1 dX10_four_7 rfl rfl ?_
      refine g_getR (pc' := 11) dX10_four_8 rfl f_X10_36 rfl rfl ?_
      refine g_aload_n (pc' := 12) 1 dX10_four_11 rfl rfl ?_
      refine g_getI (pc' := 15) dX10_four_12 rfl f_X10_142 rfl rfl (fun v2 ev2 rv2 => ?_)
      have bv2 : 0 ≤ v2 ∧ v2 ≤ 400 := by rw [ev2]; exact ic1.2.2.2.1
      refine g_iload_n (pc' := 16) 2 dX10_four_15 rfl rfl ?_
      refine g_iload_n (pc' := 17) 0 dX10_four_16 rfl rfl ?_
      refine g_ishr (pc' := 18) dX10_four_17 rfl (fun r3 => ?_)
      refine g_sipush (pc' := 21) (v := 255) dX10_four_18 rfl (by decide) ?_
      refine g_iand (pc' := 22) dX10_four_21 rfl (fun r4 => ?_)
      refine g_iast (pc' := 23) dX10_four_22 rfl rfl (by omega) (by omega) r4 (fun M5 hM5 => ?_)
      have iM5 : IM M5 := IM.wr ic1 hM5 (by unfold okv; first | decide | omega)
      have fM5 : Fr (fun c => c = 97 ∨ c = 106) M M5 := Fr.wr fr1 hM5 (by first | decide | omega | (dsimp only; omega))
      have q99_0_M5 : (M5 99 0 = M 99 0) := (show M5 99 0 = M1 99 0 by rw [hM5]; exact mu_ne _ _ (by first | decide | omega)).trans q99_0
      have q99_1_M5 : (M5 99 1 = M 99 1) := (show M5 99 1 = M1 99 1 by rw [hM5]; exact mu_ne _ _ (by first | decide | omega)).trans q99_1
      have q99_2_M5 : (M5 99 2 = M 99 2) := (show M5 99 2 = M1 99 2 by rw [hM5]; exact mu_ne _ _ (by first | decide | omega)).trans q99_2
      have q99_3_M5 : (M5 99 3 = M 99 3) := (show M5 99 3 = M1 99 3 by rw [hM5]; exact mu_ne _ _ (by first | decide | omega)).trans q99_3
      have q100_0_M5 : id (M5 100 0 = M 100 0) := (show M5 100 0 = M1 100 0 by rw [hM5]; exact mu_ne _ _ (by first | decide | omega)).trans q100_0
      have q100_1_M5 : id (M5 100 1 = M 100 1) := (show M5 100 1 = M1 100 1 by rw [hM5]; exact mu_ne _ _ (by first | decide | omega)).trans q100_1
      have q100_2_M5 : id (M5 100 2 = M 100 2) := (show M5 100 2 = M1 100 2 by rw [hM5]; exact mu_ne _ _ (by first | decide | omega)).trans q100_2
      have q100_3_M5 : id (M5 100 3 = M 100 3) := (show M5 100 3 = M1 100 3 by rw [hM5]; exact mu_ne _ _ (by first | decide | omega)).trans q100_3
      have q100_49_M5 : id (M5 100 49 = M 100 49) := (show M5 100 49 = M1 100 49 by rw [hM5]; exact mu_ne _ _ (by first | decide | omega)).trans q100_49
      have q100_50_M5 : id (M5 100 50 = M 100 50) := (show M5 100 50 = M1 100 50 by rw [hM5]; exact mu_ne _ _ (by first | decide | omega)).trans q100_50
      have q100_51_M5 : id (M5 100 51 = M 100 51) := (show M5 100 51 = M1 100 51 by rw [hM5]; exact mu_ne _ _ (by first | decide | omega)).trans q100_51
      have q100_52_M5 : id (M5 100 52 = M 100 52) := (show M5 100 52 = M1 100 52 by rw [hM5]; exact mu_ne _ _ (by first | decide | omega)).trans q100_52
      have q103_0_M5 : id (M5 103 0 = M 103 0) := (show M5 103 0 = M1 103 0 by rw [hM5]; exact mu_ne _ _ (by first | decide | omega)).trans q103_0
      have q103_1_M5 : id (M5 103 1 = M 103 1) := (show M5 103 1 = M1 103 1 by rw [hM5]; exact mu_ne _ _ (by first | decide | omega)).trans q103_1
      have q97_17_M5 : (M5 97 17 = M 97 17) := (show M5 97 17 = M1 97 17 by rw [hM5]; exact mu_ne _ _ (by first | decide | omega)).trans q97_17
      have q97_33_M5 : (M5 97 33 = M 97 33) := (show M5 97 33 = M1 97 33 by rw [hM5]; exact mu_ne _ _ (by first | decide | omega)).trans q97_33
      have q97_10_M5 : (M5 97 10 = M 97 10) := (show M5 97 10 = M1 97 10 by rw [hM5]; exact mu_ne _ _ (by first | decide | omega)).trans q97_10
      have q97_44_M5 : (M5 97 44 = M 97 44) := (show M5 97 44 = M1 97 44 by rw [hM5]; exact mu_ne _ _ (by first | decide | omega)).trans q97_44
      have q97_1_M5 : (M5 97 1 = M 97 1) := (show M5 97 1 = M1 97 1 by rw [hM5]; exact mu_ne _ _ (by first | decide | omega)).trans q97_1
      have wM5_97_12 : M5 97 12 = M1 97 12 := by rw [hM5]; exact mu_ne _ _ (by first | decide | omega)
      have byM5 : BYp (M 106) (M5 106) (M 97 12) a (s + -8) := BYp.s by1 (by omega) (by omega) (by omega) (show M5 106 = ms (M1 106) (M1 97 12).toNat (oand (oshr a s) 255) by rw [hM5, mu_is]; first | rfl | (congr 1; omega) | (congr 2; omega))
      refine g_aload_n (pc' := 24) 1 dX10_four_23 rfl rfl ?_
      refine g_dup (pc' := 25) dX10_four_24 rfl rfl ?_
      refine g_getI (pc' := 28) dX10_four_25 rfl f_X10_142 rfl rfl (fun v6 ev6 rv6 => ?_)
      have bv6 : 0 ≤ v6 ∧ v6 ≤ 400 := by rw [ev6]; exact iM5.2.2.2.1
      refine g_iconst (pc' := 29) dX10_four_28 rfl ?_
      refine g_iadd (pc' := 30) dX10_four_29 rfl ?_
      refine g_putI (pc' := 33) dX10_four_30 rfl p_X10_142 rfl rfl ⟨by omega, by omega⟩ (fun M7 hM7 => ?_)
      have iM7 : IM M7 := IM.wr iM5 hM7 (by unfold okv; first | decide | omega)
      have fM7 : Fr (fun c => c = 97 ∨ c = 106) M M7 := Fr.wr fM5 hM7 (by first | decide | omega | (dsimp only; omega))
      have q99_0_M7 : (M7 99 0 = M 99 0) := (show M7 99 0 = M5 99 0 by rw [hM7]; exact mu_ne _ _ (by first | decide | omega)).trans q99_0_M5
      have q99_1_M7 : (M7 99 1 = M 99 1) := (show M7 99 1 = M5 99 1 by rw [hM7]; exact mu_ne _ _ (by first | decide | omega)).trans q99_1_M5
      have q99_2_M7 : (M7 99 2 = M 99 2) := (show M7 99 2 = M5 99 2 by rw [hM7]; exact mu_ne _ _ (by first | decide | omega)).trans q99_2_M5
      have q99_3_M7 : (M7 99 3 = M 99 3) := (show M7 99 3 = M5 99 3 by rw [hM7]; exact mu_ne _ _ (by first | decide | omega)).trans q99_3_M5
      have q100_0_M7 : id (M7 100 0 = M 100 0) := (show M7 100 0 = M5 100 0 by rw [hM7]; exact mu_ne _ _ (by first | decide | omega)).trans q100_0_M5
      have q100_1_M7 : id (M7 100 1 = M 100 1) := (show M7 100 1 = M5 100 1 by rw [hM7]; exact mu_ne _ _ (by first | decide | omega)).trans q100_1_M5
      have q100_2_M7 : id (M7 100 2 = M 100 2) := (show M7 100 2 = M5 100 2 by rw [hM7]; exact mu_ne _ _ (by first | decide | omega)).trans q100_2_M5
      have q100_3_M7 : id (M7 100 3 = M 100 3) := (show M7 100 3 = M5 100 3 by rw [hM7]; exact mu_ne _ _ (by first | decide | omega)).trans q100_3_M5
      have q100_49_M7 : id (M7 100 49 = M 100 49) := (show M7 100 49 = M5 100 49 by rw [hM7]; exact mu_ne _ _ (by first | decide | omega)).trans q100_49_M5
      have q100_50_M7 : id (M7 100 50 = M 100 50) := (show M7 100 50 = M5 100 50 by rw [hM7]; exact mu_ne _ _ (by first | decide | omega)).trans q100_50_M5
      have q100_51_M7 : id (M7 100 51 = M 100 51) := (show M7 100 51 = M5 100 51 by rw [hM7]; exact mu_ne _ _ (by first | decide | omega)).trans q100_51_M5
      have q100_52_M7 : id (M7 100 52 = M 100 52) := (show M7 100 52 = M5 100 52 by rw [hM7]; exact mu_ne _ _ (by first | decide | omega)).trans q100_52_M5
      have q103_0_M7 : id (M7 103 0 = M 103 0) := (show M7 103 0 = M5 103 0 by rw [hM7]; exact mu_ne _ _ (by first | decide | omega)).trans q103_0_M5
      have q103_1_M7 : id (M7 103 1 = M 103 1) := (show M7 103 1 = M5 103 1 by rw [hM7]; exact mu_ne _ _ (by first | decide | omega)).trans q103_1_M5
      have q97_17_M7 : (M7 97 17 = M 97 17) := (show M7 97 17 = M5 97 17 by rw [hM7]; exact mu_ne _ _ (by first | decide | omega)).trans q97_17_M5
      have q97_33_M7 : (M7 97 33 = M 97 33) := (show M7 97 33 = M5 97 33 by rw [hM7]; exact mu_ne _ _ (by first | decide | omega)).trans q97_33_M5
      have q97_10_M7 : (M7 97 10 = M 97 10) := (show M7 97 10 = M5 97 10 by rw [hM7]; exact mu_ne _ _ (by first | decide | omega)).trans q97_10_M5
      have q97_44_M7 : (M7 97 44 = M 97 44) := (show M7 97 44 = M5 97 44 by rw [hM7]; exact mu_ne _ _ (by first | decide | omega)).trans q97_44_M5
      have q97_1_M7 : (M7 97 1 = M 97 1) := (show M7 97 1 = M5 97 1 by rw [hM7]; exact mu_ne _ _ (by first | decide | omega)).trans q97_1_M5
      have xM7_97_12 : M7 97 12 = v6 + 1 := by rw [hM7]; exact mu_at _ _ _ _
      have byM7 : BYp (M 106) (M7 106) (M 97 12) a (s + -8) := by rw [hM7, mu_cell _ _ (by decide)]; exact byM5
      refine g_iinc (pc' := 36) (L' := [(2, vi (s + (-8))), (0, vr X 97), (1, vi a)]) 0 dX10_four_33 rfl rfl (by decide) rfl ?_
      refine g_goto (tgt := 3) dX10_four_36 rfl ?_
      refine g_sub [0, 1, 2] rfl ?_
      exact ih _ (by omega) (s + (-8)) M7 iM7 fM7 q99_0_M7 q99_1_M7 q99_2_M7 q99_3_M7 q100_0_M7 q100_1_M7 q100_2_M7 q100_3_M7 q100_49_M7 q100_50_M7 q100_51_M7 q100_52_M7 q103_0_M7 q103_1_M7 q97_17_M7 q97_33_M7 q97_10_M7 q97_44_M7 q97_1_M7 (by omega) (by omega) byM7 rfl
set_option maxHeartbeats 4000000 in
set_option maxRecDepth 100000 in
theorem c_X10_four_x (X : Cx) (M : Mm) (hi : IM M) (a : Int) (ha : inI a) (hl : M 97 12 ≤ 396) : Con X 0 yX10_four cX10_four 3 none [vr X 97, vi a] M (Qv (fun M1 => IM M1 ∧ Fr (fun c => c = 97 ∨ c = 106) M M1 ∧ M1 99 0 = M 99 0 ∧ M1 99 1 = M 99 1 ∧ M1 99 2 = M 99 2 ∧ M1 99 3 = M 99 3 ∧ M1 100 0 = M 100 0 ∧ M1 100 1 = M 100 1 ∧ M1 100 2 = M 100 2 ∧ M1 100 3 = M 100 3 ∧ M1 100 49 = M 100 49 ∧ M1 100 50 = M 100 50 ∧ M1 100 51 = M 100 51 ∧ M1 100 52 = M 100 52 ∧ M1 103 0 = M 103 0 ∧ M1 103 1 = M 103 1 ∧ M1 97 17 = M 97 17 ∧ M1 97 33 = M 97 33 ∧ M1 97 10 = M 97 10 ∧ M1 97 44 = M 97 44 ∧ M1 97 1 = M 97 1 ∧ (BYT (M 106) (M1 106) (M 97 12) a ∧ M1 97 12 = M 97 12 + 4))) := by
  refine Con.ofG rfl (Nat.le_of_ble_eq_true rfl) ?_
  show G X 0 RX10 cX10_four 3 none (Qv (fun M1 => IM M1 ∧ Fr (fun c => c = 97 ∨ c = 106) M M1 ∧ M1 99 0 = M 99 0 ∧ M1 99 1 = M 99 1 ∧ M1 99 2 = M 99 2 ∧ M1 99 3 = M 99 3 ∧ M1 100 0 = M 100 0 ∧ M1 100 1 = M 100 1 ∧ M1 100 2 = M 100 2 ∧ M1 100 3 = M 100 3 ∧ M1 100 49 = M 100 49 ∧ M1 100 50 = M 100 50 ∧ M1 100 51 = M 100 51 ∧ M1 100 52 = M 100 52 ∧ M1 103 0 = M 103 0 ∧ M1 103 1 = M 103 1 ∧ M1 97 17 = M 97 17 ∧ M1 97 33 = M 97 33 ∧ M1 97 10 = M 97 10 ∧ M1 97 44 = M 97 44 ∧ M1 97 1 = M 97 1 ∧ (BYT (M 106) (M1 106) (M 97 12) a ∧ M1 97 12 = M 97 12 + 4))) 0 [(0, vr X 97), (1, vi a)] [] M
  have p0 := hi.1.1
  have p1 := hi.1.2.1
  have p2 := hi.1.2.2.1
  have p3 := hi.1.2.2.2.1
  have p12 := hi.2.2.2.1
  refine g_bipush (pc' := 2) (v := 24) dX10_four_0 rfl (by decide) ?_
  refine g_istore_n (pc' := 3) (i := 2) (L' := [(2, vi 24), (0, vr X 97), (1, vi a)]) dX10_four_2 rfl rfl (by decide) rfl ?_
  refine g_sub [0, 1, 2] rfl ?_
  exact l_X10_four_x_3 X M hi a ha hl _ 24 M hi Fr.rf rfl rfl rfl rfl rfl rfl rfl rfl rfl rfl rfl rfl rfl rfl rfl rfl rfl rfl rfl (by omega) (by omega) (BYp.z _ _ _) rfl
set_option maxHeartbeats 4000000 in
set_option maxRecDepth 100000 in
theorem c_X10_feed_x (X : Cx) (M : Mm) (hi : IM M) (a : Int) (ha : inI a) (b : Int) (hb : inI b) (c : Int) (hc : inI c) (e1 : Int) (he1 : inI e1) (e2 : Int) (he2 : inI e2) : Con X 12 yX10_feed cX10_feed 6 (some .int) [vr X 97, vi a, vi b, vi c, vi e1, vi e2] M (Qi (fun r M1 => IM M1 ∧ Fr (fun c => c = 97 ∨ c = 106) M M1 ∧ M1 99 0 = M 99 0 ∧ M1 99 1 = M 99 1 ∧ M1 99 2 = M 99 2 ∧ M1 99 3 = M 99 3 ∧ M1 100 0 = M 100 0 ∧ M1 100 1 = M 100 1 ∧ M1 100 2 = M 100 2 ∧ M1 100 3 = M 100 3 ∧ M1 100 49 = M 100 49 ∧ M1 100 50 = M 100 50 ∧ M1 100 51 = M 100 51 ∧ M1 100 52 = M 100 52 ∧ M1 103 0 = M 103 0 ∧ M1 103 1 = M 103 1 ∧ M1 97 17 = M 97 17 ∧ M1 97 33 = M 97 33 ∧ M1 97 10 = M 97 10 ∧ M1 97 44 = M 97 44 ∧ M1 97 1 = M 97 1 ∧ (((M 97 12 ≤ 380 → r = M 97 12 + 20 ∧ M1 97 12 = M 97 12 + 20) ∧ (380 < M 97 12 → r = -1 ∧ M1 97 12 = M 97 12)) ∧ FEX (M 106) (M1 106) (M 97 12) a b c e1 e2))) := by
  refine Con.ofG rfl (Nat.le_of_ble_eq_true rfl) ?_
  show G X 12 RX10 cX10_feed 6 (some .int) (Qi (fun r M1 => IM M1 ∧ Fr (fun c => c = 97 ∨ c = 106) M M1 ∧ M1 99 0 = M 99 0 ∧ M1 99 1 = M 99 1 ∧ M1 99 2 = M 99 2 ∧ M1 99 3 = M 99 3 ∧ M1 100 0 = M 100 0 ∧ M1 100 1 = M 100 1 ∧ M1 100 2 = M 100 2 ∧ M1 100 3 = M 100 3 ∧ M1 100 49 = M 100 49 ∧ M1 100 50 = M 100 50 ∧ M1 100 51 = M 100 51 ∧ M1 100 52 = M 100 52 ∧ M1 103 0 = M 103 0 ∧ M1 103 1 = M 103 1 ∧ M1 97 17 = M 97 17 ∧ M1 97 33 = M 97 33 ∧ M1 97 10 = M 97 10 ∧ M1 97 44 = M 97 44 ∧ M1 97 1 = M 97 1 ∧ (((M 97 12 ≤ 380 → r = M 97 12 + 20 ∧ M1 97 12 = M 97 12 + 20) ∧ (380 < M 97 12 → r = -1 ∧ M1 97 12 = M 97 12)) ∧ FEX (M 106) (M1 106) (M 97 12) a b c e1 e2))) 0 [(0, vr X 97), (1, vi a), (2, vi b), (3, vi c), (4, vi e1), (5, vi e2)] [] M
  have p0 := hi.1.1
  have p1 := hi.1.2.1
  have p2 := hi.1.2.2.1
  have p3 := hi.1.2.2.2.1
  have p12 := hi.2.2.2.1
  refine g_aload_n (pc' := 1) 0 dX10_feed_0 rfl rfl ?_
  refine g_iconst (pc' := 2) dX10_feed_1 rfl ?_
  refine g_putI (pc' := 5) dX10_feed_2 rfl p_X10_77 rfl rfl (by decide) (fun M1 hM1 => ?_)
  have iM1 : IM M1 := IM.wr hi hM1 (by unfold okv; first | decide | omega)
  have fM1 : Fr (fun c => c = 97 ∨ c = 106) M M1 := Fr.wr Fr.rf hM1 (by first | decide | omega | (dsimp only; omega))
  have q99_0_M1 : (M1 99 0 = M 99 0) := (show M1 99 0 = M 99 0 by rw [hM1]; exact mu_ne _ _ (by first | decide | omega))
  have q99_1_M1 : (M1 99 1 = M 99 1) := (show M1 99 1 = M 99 1 by rw [hM1]; exact mu_ne _ _ (by first | decide | omega))
  have q99_2_M1 : (M1 99 2 = M 99 2) := (show M1 99 2 = M 99 2 by rw [hM1]; exact mu_ne _ _ (by first | decide | omega))
  have q99_3_M1 : (M1 99 3 = M 99 3) := (show M1 99 3 = M 99 3 by rw [hM1]; exact mu_ne _ _ (by first | decide | omega))
  have q100_0_M1 : id (M1 100 0 = M 100 0) := (show M1 100 0 = M 100 0 by rw [hM1]; exact mu_ne _ _ (by first | decide | omega))
  have q100_1_M1 : id (M1 100 1 = M 100 1) := (show M1 100 1 = M 100 1 by rw [hM1]; exact mu_ne _ _ (by first | decide | omega))
  have q100_2_M1 : id (M1 100 2 = M 100 2) := (show M1 100 2 = M 100 2 by rw [hM1]; exact mu_ne _ _ (by first | decide | omega))
  have q100_3_M1 : id (M1 100 3 = M 100 3) := (show M1 100 3 = M 100 3 by rw [hM1]; exact mu_ne _ _ (by first | decide | omega))
  have q100_49_M1 : id (M1 100 49 = M 100 49) := (show M1 100 49 = M 100 49 by rw [hM1]; exact mu_ne _ _ (by first | decide | omega))
  have q100_50_M1 : id (M1 100 50 = M 100 50) := (show M1 100 50 = M 100 50 by rw [hM1]; exact mu_ne _ _ (by first | decide | omega))
  have q100_51_M1 : id (M1 100 51 = M 100 51) := (show M1 100 51 = M 100 51 by rw [hM1]; exact mu_ne _ _ (by first | decide | omega))
  have q100_52_M1 : id (M1 100 52 = M 100 52) := (show M1 100 52 = M 100 52 by rw [hM1]; exact mu_ne _ _ (by first | decide | omega))
  have q103_0_M1 : id (M1 103 0 = M 103 0) := (show M1 103 0 = M 103 0 by rw [hM1]; exact mu_ne _ _ (by first | decide | omega))
  have q103_1_M1 : id (M1 103 1 = M 103 1) := (show M1 103 1 = M 103 1 by rw [hM1]; exact mu_ne _ _ (by first | decide | omega))
  have q97_17_M1 : (M1 97 17 = M 97 17) := (show M1 97 17 = M 97 17 by rw [hM1]; exact mu_ne _ _ (by first | decide | omega))
  have q97_33_M1 : (M1 97 33 = M 97 33) := (show M1 97 33 = M 97 33 by rw [hM1]; exact mu_ne _ _ (by first | decide | omega))
  have q97_10_M1 : (M1 97 10 = M 97 10) := (show M1 97 10 = M 97 10 by rw [hM1]; exact mu_ne _ _ (by first | decide | omega))
  have q97_44_M1 : (M1 97 44 = M 97 44) := (show M1 97 44 = M 97 44 by rw [hM1]; exact mu_ne _ _ (by first | decide | omega))
  have q97_1_M1 : (M1 97 1 = M 97 1) := (show M1 97 1 = M 97 1 by rw [hM1]; exact mu_ne _ _ (by first | decide | omega))
  have q97_12_M1 : (M1 97 12 = M 97 12) := (show M1 97 12 = M 97 12 by rw [hM1]; exact mu_ne _ _ (by first | decide | omega))
  have wM1_97_12 : M1 97 12 = M 97 12 := by rw [hM1]; exact mu_ne _ _ (by first | decide | omega)
  have xM1_97_0 : M1 97 0 = 0 := by rw [hM1]; exact mu_at _ _ _ _
  refine g_aload_n (pc' := 6) 0 dX10_feed_5 rfl rfl ?_
  refine g_getI (pc' := 9) dX10_feed_6 rfl f_X10_142 rfl rfl (fun v2 ev2 rv2 => ?_)
  have bv2 : 0 ≤ v2 ∧ v2 ≤ 400 := by rw [ev2]; exact iM1.2.2.2.1
  have av2 : v2 = M 97 12 := ev2.trans q97_12_M1
  refine g_bipush (pc' := 11) (v := 20) dX10_feed_9 rfl (by decide) ?_
  refine g_iadd (pc' := 12) dX10_feed_11 rfl ?_
  refine g_sipush (pc' := 15) (v := 400) dX10_feed_12 rfl (by decide) ?_
  refine g_ic_le (pc' := 18) (tgt := 20) ⟨by omega, by omega⟩ (by decide) dX10_feed_15 rfl rfl (fun c3 => ?_) (fun c3 => ?_)
  · refine g_aload_n (pc' := 21) 0 dX10_feed_20 rfl rfl ?_
    refine g_iload_n (pc' := 22) 1 dX10_feed_21 rfl rfl ?_
    refine g_callVv (pc' := 25) (As := [vi a]) (b := 97) (S := []) dX10_feed_22 rfl m_X10_148 w_X10_four (c_X10_four_x X M1 iM1 a ha (by omega)) rfl ⟨_, _, _, rfl, rfl, rfl⟩ (by decide) (by decide) rfl (Nat.le_of_ble_eq_true rfl) (fun M5 q4 => ?_)
    obtain ⟨iM5, fM50, eM5_99_0, eM5_99_1, eM5_99_2, eM5_99_3, eM5_100_0, eM5_100_1, eM5_100_2, eM5_100_3, eM5_100_49, eM5_100_50, eM5_100_51, eM5_100_52, eM5_103_0, eM5_103_1, eM5_97_17, eM5_97_33, eM5_97_10, eM5_97_44, eM5_97_1, pM5⟩ := q4
    have fM5 : Fr (fun c => c = 97 ∨ c = 106) M M5 := Fr.tr fM1 fM50 (fun _ z => z)
    have q99_0_M5 : (M5 99 0 = M 99 0) := eM5_99_0.trans q99_0_M1
    have q99_1_M5 : (M5 99 1 = M 99 1) := eM5_99_1.trans q99_1_M1
    have q99_2_M5 : (M5 99 2 = M 99 2) := eM5_99_2.trans q99_2_M1
    have q99_3_M5 : (M5 99 3 = M 99 3) := eM5_99_3.trans q99_3_M1
    have q100_0_M5 : id (M5 100 0 = M 100 0) := eM5_100_0.trans q100_0_M1
    have q100_1_M5 : id (M5 100 1 = M 100 1) := eM5_100_1.trans q100_1_M1
    have q100_2_M5 : id (M5 100 2 = M 100 2) := eM5_100_2.trans q100_2_M1
    have q100_3_M5 : id (M5 100 3 = M 100 3) := eM5_100_3.trans q100_3_M1
    have q100_49_M5 : id (M5 100 49 = M 100 49) := eM5_100_49.trans q100_49_M1
    have q100_50_M5 : id (M5 100 50 = M 100 50) := eM5_100_50.trans q100_50_M1
    have q100_51_M5 : id (M5 100 51 = M 100 51) := eM5_100_51.trans q100_51_M1
    have q100_52_M5 : id (M5 100 52 = M 100 52) := eM5_100_52.trans q100_52_M1
    have q103_0_M5 : id (M5 103 0 = M 103 0) := eM5_103_0.trans q103_0_M1
    have q103_1_M5 : id (M5 103 1 = M 103 1) := eM5_103_1.trans q103_1_M1
    have q97_17_M5 : (M5 97 17 = M 97 17) := eM5_97_17.trans q97_17_M1
    have q97_33_M5 : (M5 97 33 = M 97 33) := eM5_97_33.trans q97_33_M1
    have q97_10_M5 : (M5 97 10 = M 97 10) := eM5_97_10.trans q97_10_M1
    have q97_44_M5 : (M5 97 44 = M 97 44) := eM5_97_44.trans q97_44_M1
    have q97_1_M5 : (M5 97 1 = M 97 1) := eM5_97_1.trans q97_1_M1
    clear eM5_100_0 eM5_100_1 eM5_100_2 eM5_100_3 eM5_100_49 eM5_100_50 eM5_100_51 eM5_100_52 eM5_103_0 eM5_103_1
    obtain ⟨byM5, pnM5⟩ := pM5
    rw [show M1 97 12 = M 97 12 + 0 by omega] at byM5
    rw [show M1 106 = M 106 from (show Fr (fun c => c = 97) M M1 from fun q hq => by rw [hM1]; exact mu_cell _ _ hq) 106 (by decide), Int.add_zero] at byM5
    refine g_aload_n (pc' := 26) 0 dX10_feed_25 rfl rfl ?_
    refine g_iload_n (pc' := 27) 2 dX10_feed_26 rfl rfl ?_
    refine g_callVv (pc' := 30) (As := [vi b]) (b := 97) (S := []) dX10_feed_27 rfl m_X10_148 w_X10_four (c_X10_four_x X M5 iM5 b hb (by omega)) rfl ⟨_, _, _, rfl, rfl, rfl⟩ (by decide) (by decide) rfl (Nat.le_of_ble_eq_true rfl) (fun M7 q6 => ?_)
    obtain ⟨iM7, fM70, eM7_99_0, eM7_99_1, eM7_99_2, eM7_99_3, eM7_100_0, eM7_100_1, eM7_100_2, eM7_100_3, eM7_100_49, eM7_100_50, eM7_100_51, eM7_100_52, eM7_103_0, eM7_103_1, eM7_97_17, eM7_97_33, eM7_97_10, eM7_97_44, eM7_97_1, pM7⟩ := q6
    have fM7 : Fr (fun c => c = 97 ∨ c = 106) M M7 := Fr.tr fM5 fM70 (fun _ z => z)
    have q99_0_M7 : (M7 99 0 = M 99 0) := eM7_99_0.trans q99_0_M5
    have q99_1_M7 : (M7 99 1 = M 99 1) := eM7_99_1.trans q99_1_M5
    have q99_2_M7 : (M7 99 2 = M 99 2) := eM7_99_2.trans q99_2_M5
    have q99_3_M7 : (M7 99 3 = M 99 3) := eM7_99_3.trans q99_3_M5
    have q100_0_M7 : id (M7 100 0 = M 100 0) := eM7_100_0.trans q100_0_M5
    have q100_1_M7 : id (M7 100 1 = M 100 1) := eM7_100_1.trans q100_1_M5
    have q100_2_M7 : id (M7 100 2 = M 100 2) := eM7_100_2.trans q100_2_M5
    have q100_3_M7 : id (M7 100 3 = M 100 3) := eM7_100_3.trans q100_3_M5
    have q100_49_M7 : id (M7 100 49 = M 100 49) := eM7_100_49.trans q100_49_M5
    have q100_50_M7 : id (M7 100 50 = M 100 50) := eM7_100_50.trans q100_50_M5
    have q100_51_M7 : id (M7 100 51 = M 100 51) := eM7_100_51.trans q100_51_M5
    have q100_52_M7 : id (M7 100 52 = M 100 52) := eM7_100_52.trans q100_52_M5
    have q103_0_M7 : id (M7 103 0 = M 103 0) := eM7_103_0.trans q103_0_M5
    have q103_1_M7 : id (M7 103 1 = M 103 1) := eM7_103_1.trans q103_1_M5
    have q97_17_M7 : (M7 97 17 = M 97 17) := eM7_97_17.trans q97_17_M5
    have q97_33_M7 : (M7 97 33 = M 97 33) := eM7_97_33.trans q97_33_M5
    have q97_10_M7 : (M7 97 10 = M 97 10) := eM7_97_10.trans q97_10_M5
    have q97_44_M7 : (M7 97 44 = M 97 44) := eM7_97_44.trans q97_44_M5
    have q97_1_M7 : (M7 97 1 = M 97 1) := eM7_97_1.trans q97_1_M5
    clear eM7_100_0 eM7_100_1 eM7_100_2 eM7_100_3 eM7_100_49 eM7_100_50 eM7_100_51 eM7_100_52 eM7_103_0 eM7_103_1
    obtain ⟨byM7, pnM7⟩ := pM7
    rw [show M5 97 12 = M 97 12 + 4 by omega] at byM7
    refine g_aload_n (pc' := 31) 0 dX10_feed_30 rfl rfl ?_
    refine g_iload_n (pc' := 32) 3 dX10_feed_31 rfl rfl ?_
    refine g_callVv (pc' := 35) (As := [vi c]) (b := 97) (S := []) dX10_feed_32 rfl m_X10_148 w_X10_four (c_X10_four_x X M7 iM7 c hc (by omega)) rfl ⟨_, _, _, rfl, rfl, rfl⟩ (by decide) (by decide) rfl (Nat.le_of_ble_eq_true rfl) (fun M9 q8 => ?_)
    obtain ⟨iM9, fM90, eM9_99_0, eM9_99_1, eM9_99_2, eM9_99_3, eM9_100_0, eM9_100_1, eM9_100_2, eM9_100_3, eM9_100_49, eM9_100_50, eM9_100_51, eM9_100_52, eM9_103_0, eM9_103_1, eM9_97_17, eM9_97_33, eM9_97_10, eM9_97_44, eM9_97_1, pM9⟩ := q8
    have fM9 : Fr (fun c => c = 97 ∨ c = 106) M M9 := Fr.tr fM7 fM90 (fun _ z => z)
    have q99_0_M9 : (M9 99 0 = M 99 0) := eM9_99_0.trans q99_0_M7
    have q99_1_M9 : (M9 99 1 = M 99 1) := eM9_99_1.trans q99_1_M7
    have q99_2_M9 : (M9 99 2 = M 99 2) := eM9_99_2.trans q99_2_M7
    have q99_3_M9 : (M9 99 3 = M 99 3) := eM9_99_3.trans q99_3_M7
    have q100_0_M9 : id (M9 100 0 = M 100 0) := eM9_100_0.trans q100_0_M7
    have q100_1_M9 : id (M9 100 1 = M 100 1) := eM9_100_1.trans q100_1_M7
    have q100_2_M9 : id (M9 100 2 = M 100 2) := eM9_100_2.trans q100_2_M7
    have q100_3_M9 : id (M9 100 3 = M 100 3) := eM9_100_3.trans q100_3_M7
    have q100_49_M9 : id (M9 100 49 = M 100 49) := eM9_100_49.trans q100_49_M7
    have q100_50_M9 : id (M9 100 50 = M 100 50) := eM9_100_50.trans q100_50_M7
    have q100_51_M9 : id (M9 100 51 = M 100 51) := eM9_100_51.trans q100_51_M7
    have q100_52_M9 : id (M9 100 52 = M 100 52) := eM9_100_52.trans q100_52_M7
    have q103_0_M9 : id (M9 103 0 = M 103 0) := eM9_103_0.trans q103_0_M7
    have q103_1_M9 : id (M9 103 1 = M 103 1) := eM9_103_1.trans q103_1_M7
    have q97_17_M9 : (M9 97 17 = M 97 17) := eM9_97_17.trans q97_17_M7
    have q97_33_M9 : (M9 97 33 = M 97 33) := eM9_97_33.trans q97_33_M7
    have q97_10_M9 : (M9 97 10 = M 97 10) := eM9_97_10.trans q97_10_M7
    have q97_44_M9 : (M9 97 44 = M 97 44) := eM9_97_44.trans q97_44_M7
    have q97_1_M9 : (M9 97 1 = M 97 1) := eM9_97_1.trans q97_1_M7
    clear eM9_100_0 eM9_100_1 eM9_100_2 eM9_100_3 eM9_100_49 eM9_100_50 eM9_100_51 eM9_100_52 eM9_103_0 eM9_103_1
    obtain ⟨byM9, pnM9⟩ := pM9
    rw [show M7 97 12 = M 97 12 + 8 by omega] at byM9
    refine g_aload_n (pc' := 36) 0 dX10_feed_35 rfl rfl ?_
    refine g_iload (pc' := 38) 4 dX10_feed_36 rfl rfl ?_
    refine g_callVv (pc' := 41) (As := [vi e1]) (b := 97) (S := []) dX10_feed_38 rfl m_X10_148 w_X10_four (c_X10_four_x X M9 iM9 e1 he1 (by omega)) rfl ⟨_, _, _, rfl, rfl, rfl⟩ (by decide) (by decide) rfl (Nat.le_of_ble_eq_true rfl) (fun M11 q10 => ?_)
    obtain ⟨iM11, fM110, eM11_99_0, eM11_99_1, eM11_99_2, eM11_99_3, eM11_100_0, eM11_100_1, eM11_100_2, eM11_100_3, eM11_100_49, eM11_100_50, eM11_100_51, eM11_100_52, eM11_103_0, eM11_103_1, eM11_97_17, eM11_97_33, eM11_97_10, eM11_97_44, eM11_97_1, pM11⟩ := q10
    have fM11 : Fr (fun c => c = 97 ∨ c = 106) M M11 := Fr.tr fM9 fM110 (fun _ z => z)
    have q99_0_M11 : (M11 99 0 = M 99 0) := eM11_99_0.trans q99_0_M9
    have q99_1_M11 : (M11 99 1 = M 99 1) := eM11_99_1.trans q99_1_M9
    have q99_2_M11 : (M11 99 2 = M 99 2) := eM11_99_2.trans q99_2_M9
    have q99_3_M11 : (M11 99 3 = M 99 3) := eM11_99_3.trans q99_3_M9
    have q100_0_M11 : id (M11 100 0 = M 100 0) := eM11_100_0.trans q100_0_M9
    have q100_1_M11 : id (M11 100 1 = M 100 1) := eM11_100_1.trans q100_1_M9
    have q100_2_M11 : id (M11 100 2 = M 100 2) := eM11_100_2.trans q100_2_M9
    have q100_3_M11 : id (M11 100 3 = M 100 3) := eM11_100_3.trans q100_3_M9
    have q100_49_M11 : id (M11 100 49 = M 100 49) := eM11_100_49.trans q100_49_M9
    have q100_50_M11 : id (M11 100 50 = M 100 50) := eM11_100_50.trans q100_50_M9
    have q100_51_M11 : id (M11 100 51 = M 100 51) := eM11_100_51.trans q100_51_M9
    have q100_52_M11 : id (M11 100 52 = M 100 52) := eM11_100_52.trans q100_52_M9
    have q103_0_M11 : id (M11 103 0 = M 103 0) := eM11_103_0.trans q103_0_M9
    have q103_1_M11 : id (M11 103 1 = M 103 1) := eM11_103_1.trans q103_1_M9
    have q97_17_M11 : (M11 97 17 = M 97 17) := eM11_97_17.trans q97_17_M9
    have q97_33_M11 : (M11 97 33 = M 97 33) := eM11_97_33.trans q97_33_M9
    have q97_10_M11 : (M11 97 10 = M 97 10) := eM11_97_10.trans q97_10_M9
    have q97_44_M11 : (M11 97 44 = M 97 44) := eM11_97_44.trans q97_44_M9
    have q97_1_M11 : (M11 97 1 = M 97 1) := eM11_97_1.trans q97_1_M9
    clear eM11_100_0 eM11_100_1 eM11_100_2 eM11_100_3 eM11_100_49 eM11_100_50 eM11_100_51 eM11_100_52 eM11_103_0 eM11_103_1
    obtain ⟨byM11, pnM11⟩ := pM11
    rw [show M9 97 12 = M 97 12 + 12 by omega] at byM11
    refine g_aload_n (pc' := 42) 0 dX10_feed_41 rfl rfl ?_
    refine g_iload (pc' := 44) 5 dX10_feed_42 rfl rfl ?_
    refine g_callVv (pc' := 47) (As := [vi e2]) (b := 97) (S := []) dX10_feed_44 rfl m_X10_148 w_X10_four (c_X10_four_x X M11 iM11 e2 he2 (by omega)) rfl ⟨_, _, _, rfl, rfl, rfl⟩ (by decide) (by decide) rfl (Nat.le_of_ble_eq_true rfl) (fun M13 q12 => ?_)
    obtain ⟨iM13, fM130, eM13_99_0, eM13_99_1, eM13_99_2, eM13_99_3, eM13_100_0, eM13_100_1, eM13_100_2, eM13_100_3, eM13_100_49, eM13_100_50, eM13_100_51, eM13_100_52, eM13_103_0, eM13_103_1, eM13_97_17, eM13_97_33, eM13_97_10, eM13_97_44, eM13_97_1, pM13⟩ := q12
    have fM13 : Fr (fun c => c = 97 ∨ c = 106) M M13 := Fr.tr fM11 fM130 (fun _ z => z)
    have q99_0_M13 : (M13 99 0 = M 99 0) := eM13_99_0.trans q99_0_M11
    have q99_1_M13 : (M13 99 1 = M 99 1) := eM13_99_1.trans q99_1_M11
    have q99_2_M13 : (M13 99 2 = M 99 2) := eM13_99_2.trans q99_2_M11
    have q99_3_M13 : (M13 99 3 = M 99 3) := eM13_99_3.trans q99_3_M11
    have q100_0_M13 : id (M13 100 0 = M 100 0) := eM13_100_0.trans q100_0_M11
    have q100_1_M13 : id (M13 100 1 = M 100 1) := eM13_100_1.trans q100_1_M11
    have q100_2_M13 : id (M13 100 2 = M 100 2) := eM13_100_2.trans q100_2_M11
    have q100_3_M13 : id (M13 100 3 = M 100 3) := eM13_100_3.trans q100_3_M11
    have q100_49_M13 : id (M13 100 49 = M 100 49) := eM13_100_49.trans q100_49_M11
    have q100_50_M13 : id (M13 100 50 = M 100 50) := eM13_100_50.trans q100_50_M11
    have q100_51_M13 : id (M13 100 51 = M 100 51) := eM13_100_51.trans q100_51_M11
    have q100_52_M13 : id (M13 100 52 = M 100 52) := eM13_100_52.trans q100_52_M11
    have q103_0_M13 : id (M13 103 0 = M 103 0) := eM13_103_0.trans q103_0_M11
    have q103_1_M13 : id (M13 103 1 = M 103 1) := eM13_103_1.trans q103_1_M11
    have q97_17_M13 : (M13 97 17 = M 97 17) := eM13_97_17.trans q97_17_M11
    have q97_33_M13 : (M13 97 33 = M 97 33) := eM13_97_33.trans q97_33_M11
    have q97_10_M13 : (M13 97 10 = M 97 10) := eM13_97_10.trans q97_10_M11
    have q97_44_M13 : (M13 97 44 = M 97 44) := eM13_97_44.trans q97_44_M11
    have q97_1_M13 : (M13 97 1 = M 97 1) := eM13_97_1.trans q97_1_M11
    clear eM13_100_0 eM13_100_1 eM13_100_2 eM13_100_3 eM13_100_49 eM13_100_50 eM13_100_51 eM13_100_52 eM13_103_0 eM13_103_1
    obtain ⟨byM13, pnM13⟩ := pM13
    rw [show M11 97 12 = M 97 12 + 16 by omega] at byM13
    refine g_aload_n (pc' := 48) 0 dX10_feed_47 rfl rfl ?_
    refine g_getI (pc' := 51) dX10_feed_48 rfl f_X10_142 rfl rfl (fun v14 ev14 rv14 => ?_)
    have bv14 : 0 ≤ v14 ∧ v14 ≤ 400 := by rw [ev14]; exact iM13.2.2.2.1
    refine g_ireturn dX10_feed_51 ?_
    exact ⟨iM13, fM13, q99_0_M13, q99_1_M13, q99_2_M13, q99_3_M13, q100_0_M13, q100_1_M13, q100_2_M13, q100_3_M13, q100_49_M13, q100_50_M13, q100_51_M13, q100_52_M13, q103_0_M13, q103_1_M13, q97_17_M13, q97_33_M13, q97_10_M13, q97_44_M13, q97_1_M13, by omega, ⟨fun _ => ⟨M5 106, M7 106, M9 106, M11 106, byM5, byM7, byM9, byM11, byM13⟩, fun z => absurd z (by omega)⟩⟩
  · refine g_iconst (pc' := 19) dX10_feed_18 rfl ?_
    refine g_ireturn dX10_feed_19 ?_
    exact ⟨iM1, fM1, q99_0_M1, q99_1_M1, q99_2_M1, q99_3_M1, q100_0_M1, q100_1_M1, q100_2_M1, q100_3_M1, q100_49_M1, q100_50_M1, q100_51_M1, q100_52_M1, q103_0_M1, q103_1_M1, q97_17_M1, q97_33_M1, q97_10_M1, q97_44_M1, q97_1_M1, by omega, ⟨fun z => absurd z (by omega), fun _ => (show Fr (fun c => c = 97) M M1 from fun q hq => by rw [hM1]; exact mu_cell _ _ hq) 106 (by decide)⟩⟩
