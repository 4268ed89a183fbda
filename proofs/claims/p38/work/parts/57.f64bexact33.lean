set_option maxHeartbeats 4000000 in
set_option maxRecDepth 100000 in
theorem l_X10_goThrough_x_51 (X : Cx) (M : Mm) (hi : IM M) (n : Int) (hn : inI n) (hn3 : 0 ≤ n ∧ n ≤ 3) (hw : M 97 37 = -1 ∨ ((0 ≤ M 97 37 ∧ M 97 37 ≤ 5) ∧ 0 ≤ M 97 38 ∧ M 97 38 ≤ 3)) : ∀ (kk : Nat) (mo : Int) (k : Int) (M1 : Mm) (ic1 : IM M1) (fr1 : Fr (fun c => c = 97 ∨ c = 101 ∨ c = 104 ∨ c = 105 ∨ c = 113 ∨ c = 114) M M1) (q97_12 : (M1 97 12 = M 97 12)) (q97_37 : (M1 97 37 = M 97 37)) (q97_38 : (M1 97 38 = M 97 38)) (q97_17 : (M1 97 17 = M 97 17)) (q97_33 : (M1 97 33 = M 97 33)) (q97_10 : (M1 97 10 = M 97 10)) (q97_44 : (M1 97 44 = M 97 44)) (q97_1 : (M1 97 1 = M 97 1)) (q99_0 : (M1 99 0 = M 99 0)) (q99_1 : (M1 99 1 = M 99 1)) (kp : KPk (M1 104) k) (hk : -1 ≤ k ∧ k < 3 ∧ (k < n ∨ k = 0)) (hn1 : 1 ≤ n) (hmo : mo = 9 * M 99 1) (c0_ : Int) (c1_ : Int) (c2_ : Int) (hc0 : (0 ≤ k → c0_ = mo - M1 113 0 ∧ 1 ≤ c0_ ∧ c0_ ≤ mo + 1) ∧ (k < 0 → c0_ = 0)) (hc1 : (1 ≤ k → c1_ = mo - M1 113 1 ∧ 1 ≤ c1_ ∧ c1_ ≤ mo + 1) ∧ (k < 1 → c1_ = 0)) (hc2 : (2 ≤ k → c2_ = mo - M1 113 2 ∧ 1 ≤ c2_ ∧ c2_ ≤ mo + 1) ∧ (k < 2 → c2_ = 0)) (k0_ : ∀ j : Nat, j < 25 → M1 104 (50 + j) = M 101 j), (841 * c0_ + 29 * c1_ + c2_).toNat = kk → G X 5 RX10 cX10_goThrough 4 none (Qv (fun M1 => IM M1 ∧ Fr (fun c => c = 97 ∨ c = 101 ∨ c = 104 ∨ c = 105 ∨ c = 113 ∨ c = 114) M M1 ∧ M1 97 12 = M 97 12 ∧ M1 97 37 = M 97 37 ∧ M1 97 38 = M 97 38 ∧ M1 97 17 = M 97 17 ∧ M1 97 33 = M 97 33 ∧ M1 97 10 = M 97 10 ∧ M1 97 44 = M 97 44 ∧ M1 97 1 = M 97 1 ∧ (E25 (M 101) (M1 101)))) 51 [(2, vi mo), (3, vi k), (0, vr X 97), (1, vi n)] [] M1 := by
  intro kk
  induction kk using Nat.strongRecOn with
  | ind kk ih =>
    intro mo k M1 ic1 fr1 q97_12 q97_37 q97_38 q97_17 q97_33 q97_10 q97_44 q97_1 q99_0 q99_1 kp hk hn1 hmo c0_ c1_ c2_ hc0 hc1 hc2 k0_ hmes
    have p1 := hi.1.2.1
    have p0 := hi.1.1
    rcases (show k = (-1) ∨ k = 0 ∨ k = 1 ∨ k = 2 by omega) with rfl | rfl | rfl | rfl
    · refine g_iload_n (pc' := 52) 1 dX10_goThrough_51 rfl rfl ?_
      refine g_if_lt (pc' := 55) (tgt := 151) (by decide) dX10_goThrough_52 rfl rfl (fun c1 => ?_) (fun c1 => ?_)
      · refine g_aload_n (pc' := 152) 2 dX10_goThrough_151 rfl rfl ?_
        refine g_bipush (pc' := 154) (v := 50) dX10_goThrough_152 rfl (by decide) ?_
        refine g_callVv (pc' := 157) (As := [vi 50]) (b := 97) (S := []) dX10_goThrough_154 rfl m_X10_132 w_X10_putBack (c_X10_putBack X M1 50 (by decide) ⟨by omega, by omega⟩) rfl ⟨_, _, _, rfl, rfl, rfl⟩ (by decide) (by decide) rfl (Nat.le_of_ble_eq_true rfl) (fun M3 q2 => ?_)
        obtain ⟨fbM3, pbM3⟩ := q2
        have iM3 : IM M3 := IM.parts ic1 fbM3 (fun c z => by omega) (KPk.get kp (j := 0) (by omega) (by decide) pbM3)
        have fM3 : Fr (fun c => c = 97 ∨ c = 101 ∨ c = 104 ∨ c = 105 ∨ c = 113 ∨ c = 114) M M3 := Fr.tr fr1 fbM3 (fun c z => by first | omega | (dsimp only at z ⊢; omega))
        have q97_12_M3 : M3 97 12 = M 97 12 := (congrFun (fbM3 97 (by decide)) 12).trans q97_12
        have q97_37_M3 : M3 97 37 = M 97 37 := (congrFun (fbM3 97 (by decide)) 37).trans q97_37
        have q97_38_M3 : M3 97 38 = M 97 38 := (congrFun (fbM3 97 (by decide)) 38).trans q97_38
        have q97_17_M3 : M3 97 17 = M 97 17 := (congrFun (fbM3 97 (by decide)) 17).trans q97_17
        have q97_33_M3 : M3 97 33 = M 97 33 := (congrFun (fbM3 97 (by decide)) 33).trans q97_33
        have q97_10_M3 : M3 97 10 = M 97 10 := (congrFun (fbM3 97 (by decide)) 10).trans q97_10
        have q97_44_M3 : M3 97 44 = M 97 44 := (congrFun (fbM3 97 (by decide)) 44).trans q97_44
        have q97_1_M3 : M3 97 1 = M 97 1 := (congrFun (fbM3 97 (by decide)) 1).trans q97_1
        have q99_0_M3 : M3 99 0 = M 99 0 := (congrFun (fbM3 99 (by decide)) 0).trans q99_0
        have q99_1_M3 : M3 99 1 = M 99 1 := (congrFun (fbM3 99 (by decide)) 1).trans q99_1
        have wM3_113_0 : M3 113 0 = M1 113 0 := congrFun (fbM3 113 (by decide)) 0
        have wM3_113_1 : M3 113 1 = M1 113 1 := congrFun (fbM3 113 (by decide)) 1
        have wM3_113_2 : M3 113 2 = M1 113 2 := congrFun (fbM3 113 (by decide)) 2
        have kqM3 := KPk.cg (f' := M3 104) kp (fun q _ => congrFun (fbM3 104 (by decide)) q) (Int.le_refl _)
        have k0_M3 : ∀ j : Nat, j < 25 → M3 104 (50 + j) = M 101 j := fun j hj => (congrFun (fbM3 104 (by decide)) _).trans (k0_ j hj)
        refine g_vreturn dX10_goThrough_157 ?_
        exact ⟨iM3, fM3, q97_12_M3, q97_37_M3, q97_38_M3, q97_17_M3, q97_33_M3, q97_10_M3, q97_44_M3, q97_1_M3, (fun j hj => (pbM3 j hj).trans (k0_ j hj))⟩
      · exact absurd c1 (by omega)
    · refine g_iload_n (pc' := 52) 1 dX10_goThrough_51 rfl rfl ?_
      refine g_if_lt (pc' := 55) (tgt := 151) (by decide) dX10_goThrough_52 rfl rfl (fun c4 => ?_) (fun c4 => ?_)
      · exact absurd c4 (by omega)
      · refine g_aload_n (pc' := 56) 2 dX10_goThrough_55 rfl rfl ?_
        refine g_getR (pc' := 59) dX10_goThrough_56 rfl f_X10_64 rfl rfl ?_
        refine g_iload_n (pc' := 60) 1 dX10_goThrough_59 rfl rfl ?_
        refine g_dup2_11 (pc' := 61) dX10_goThrough_60 rfl rfl rfl ?_
        refine g_iald (pc' := 62) dX10_goThrough_61 rfl rfl (by decide) (by decide) (fun v5 ev5 rv5 => ?_)
        have ev5 : v5 = M1 113 0 := ev5
        refine g_iconst (pc' := 63) dX10_goThrough_62 rfl ?_
        refine g_iadd (pc' := 64) dX10_goThrough_63 rfl ?_
        refine g_iast (pc' := 65) dX10_goThrough_64 rfl rfl (by decide) (by decide) ⟨by omega, by omega⟩ (fun M6 hM6 => ?_)
        have hM6 : M6 = mu M1 113 0 (v5 + 1) := hM6
        have iM6 : IM M6 := IM.wr ic1 hM6 (by unfold okv; first | decide | omega)
        have fM6 : Fr (fun c => c = 97 ∨ c = 101 ∨ c = 104 ∨ c = 105 ∨ c = 113 ∨ c = 114) M M6 := Fr.wr fr1 hM6 (by first | decide | omega | (dsimp only; omega))
        have q97_12_M6 : (M6 97 12 = M 97 12) := (show M6 97 12 = M1 97 12 by rw [hM6]; exact mu_ne _ _ (by first | decide | omega)).trans q97_12
        have q97_37_M6 : (M6 97 37 = M 97 37) := (show M6 97 37 = M1 97 37 by rw [hM6]; exact mu_ne _ _ (by first | decide | omega)).trans q97_37
        have q97_38_M6 : (M6 97 38 = M 97 38) := (show M6 97 38 = M1 97 38 by rw [hM6]; exact mu_ne _ _ (by first | decide | omega)).trans q97_38
        have q97_17_M6 : (M6 97 17 = M 97 17) := (show M6 97 17 = M1 97 17 by rw [hM6]; exact mu_ne _ _ (by first | decide | omega)).trans q97_17
        have q97_33_M6 : (M6 97 33 = M 97 33) := (show M6 97 33 = M1 97 33 by rw [hM6]; exact mu_ne _ _ (by first | decide | omega)).trans q97_33
        have q97_10_M6 : (M6 97 10 = M 97 10) := (show M6 97 10 = M1 97 10 by rw [hM6]; exact mu_ne _ _ (by first | decide | omega)).trans q97_10
        have q97_44_M6 : (M6 97 44 = M 97 44) := (show M6 97 44 = M1 97 44 by rw [hM6]; exact mu_ne _ _ (by first | decide | omega)).trans q97_44
        have q97_1_M6 : (M6 97 1 = M 97 1) := (show M6 97 1 = M1 97 1 by rw [hM6]; exact mu_ne _ _ (by first | decide | omega)).trans q97_1
        have q99_0_M6 : (M6 99 0 = M 99 0) := (show M6 99 0 = M1 99 0 by rw [hM6]; exact mu_ne _ _ (by first | decide | omega)).trans q99_0
        have q99_1_M6 : (M6 99 1 = M 99 1) := (show M6 99 1 = M1 99 1 by rw [hM6]; exact mu_ne _ _ (by first | decide | omega)).trans q99_1
        have wM6_113_1 : M6 113 1 = M1 113 1 := by rw [hM6]; exact mu_ne _ _ (by first | decide | omega)
        have wM6_113_2 : M6 113 2 = M1 113 2 := by rw [hM6]; exact mu_ne _ _ (by first | decide | omega)
        have xM6_113_0 : M6 113 0 = v5 + 1 := by rw [hM6]; exact mu_at _ _ _ _
        have kqM6 := KPk.cg (f' := M6 104) kp (fun q _ => by rw [hM6, mu_cell _ _ (by decide)]) (Int.le_refl _)
        have k0_M6 : ∀ j : Nat, j < 25 → M6 104 (50 + j) = M 101 j := fun j hj => by rw [hM6, mu_cell _ _ (by decide)]; exact k0_ j hj
        refine g_aload_n (pc' := 66) 2 dX10_goThrough_65 rfl rfl ?_
        refine g_bipush (pc' := 68) (v := 50) dX10_goThrough_66 rfl (by decide) ?_
        refine g_bipush (pc' := 70) (v := 25) dX10_goThrough_68 rfl (by decide) ?_
        refine g_iload_n (pc' := 71) 1 dX10_goThrough_70 rfl rfl ?_
        refine g_imul (pc' := 72) dX10_goThrough_71 rfl ?_
        refine g_iadd (pc' := 73) dX10_goThrough_72 rfl ?_
        refine g_callVv (pc' := 76) (As := [vi (50 + (25 * 0))]) (b := 97) (S := []) dX10_goThrough_73 rfl m_X10_132 w_X10_putBack (c_X10_putBack X M6 (50 + (25 * 0)) ⟨by omega, by omega⟩ ⟨by omega, by omega⟩) rfl ⟨_, _, _, rfl, rfl, rfl⟩ (by decide) (by decide) rfl (Nat.le_of_ble_eq_true rfl) (fun M8 q7 => ?_)
        obtain ⟨fbM8, pbM8⟩ := q7
        have iM8 : IM M8 := IM.parts iM6 fbM8 (fun c z => by omega) (KPk.get kqM6 (j := 0) (by omega) (by decide) pbM8)
        have fM8 : Fr (fun c => c = 97 ∨ c = 101 ∨ c = 104 ∨ c = 105 ∨ c = 113 ∨ c = 114) M M8 := Fr.tr fM6 fbM8 (fun c z => by first | omega | (dsimp only at z ⊢; omega))
        have q97_12_M8 : M8 97 12 = M 97 12 := (congrFun (fbM8 97 (by decide)) 12).trans q97_12_M6
        have q97_37_M8 : M8 97 37 = M 97 37 := (congrFun (fbM8 97 (by decide)) 37).trans q97_37_M6
        have q97_38_M8 : M8 97 38 = M 97 38 := (congrFun (fbM8 97 (by decide)) 38).trans q97_38_M6
        have q97_17_M8 : M8 97 17 = M 97 17 := (congrFun (fbM8 97 (by decide)) 17).trans q97_17_M6
        have q97_33_M8 : M8 97 33 = M 97 33 := (congrFun (fbM8 97 (by decide)) 33).trans q97_33_M6
        have q97_10_M8 : M8 97 10 = M 97 10 := (congrFun (fbM8 97 (by decide)) 10).trans q97_10_M6
        have q97_44_M8 : M8 97 44 = M 97 44 := (congrFun (fbM8 97 (by decide)) 44).trans q97_44_M6
        have q97_1_M8 : M8 97 1 = M 97 1 := (congrFun (fbM8 97 (by decide)) 1).trans q97_1_M6
        have q99_0_M8 : M8 99 0 = M 99 0 := (congrFun (fbM8 99 (by decide)) 0).trans q99_0_M6
        have q99_1_M8 : M8 99 1 = M 99 1 := (congrFun (fbM8 99 (by decide)) 1).trans q99_1_M6
        have wM8_113_0 : M8 113 0 = M6 113 0 := congrFun (fbM8 113 (by decide)) 0
        have wM8_113_1 : M8 113 1 = M6 113 1 := congrFun (fbM8 113 (by decide)) 1
        have wM8_113_2 : M8 113 2 = M6 113 2 := congrFun (fbM8 113 (by decide)) 2
        have xM8_113_0 : M8 113 0 = v5 + 1 := (congrFun (fbM8 113 (by decide)) 0).trans xM6_113_0
        have kqM8 := KPk.cg (f' := M8 104) kqM6 (fun q _ => congrFun (fbM8 104 (by decide)) q) (Int.le_refl _)
        have k0_M8 : ∀ j : Nat, j < 25 → M8 104 (50 + j) = M 101 j := fun j hj => (congrFun (fbM8 104 (by decide)) _).trans (k0_M6 j hj)
        refine g_aload_n (pc' := 77) 2 dX10_goThrough_76 rfl rfl ?_
        refine g_getR (pc' := 80) dX10_goThrough_77 rfl f_X10_64 rfl rfl ?_
        refine g_iload_n (pc' := 81) 1 dX10_goThrough_80 rfl rfl ?_
        refine g_iald (pc' := 82) dX10_goThrough_81 rfl rfl (by decide) (by decide) (fun v9 ev9 rv9 => ?_)
        have ev9 : v9 = M8 113 0 := ev9
        have yv9 : v9 = v5 + 1 := ev9.trans xM8_113_0
        refine g_iload_n (pc' := 83) 0 dX10_goThrough_82 rfl rfl ?_
        refine g_ic_ne (pc' := 86) (tgt := 92) rv9 ⟨by omega, by omega⟩ dX10_goThrough_83 rfl rfl (fun c10 => ?_) (fun c10 => ?_)
        · refine g_aload_n (pc' := 93) 2 dX10_goThrough_92 rfl rfl ?_
          refine g_aload_n (pc' := 94) 2 dX10_goThrough_93 rfl rfl ?_
          refine g_getR (pc' := 97) dX10_goThrough_94 rfl f_X10_64 rfl rfl ?_
          refine g_iload_n (pc' := 98) 1 dX10_goThrough_97 rfl rfl ?_
          refine g_iald (pc' := 99) dX10_goThrough_98 rfl rfl (by decide) (by decide) (fun v11 ev11 rv11 => ?_)
          have ev11 : v11 = M8 113 0 := ev11
          obtain rfl : v9 = v11 := ev9.trans ev11.symm
          refine g_callVi (pc' := 102) (As := [vi v9]) (b := 97) (S := []) dX10_goThrough_99 rfl m_X10_363 w_X10_goes (c_X10_goes X M8 iM8 v9 rv9 (by omega)) rfl ⟨_, _, _, rfl, rfl, rfl⟩ (by decide) (by decide) rfl (Nat.le_of_ble_eq_true rfl) (fun z13 M14 q12 => ?_)
          obtain ⟨iM14, fM140, pM14⟩ := q12
          have fM14 : Fr (fun c => c = 97 ∨ c = 101 ∨ c = 104 ∨ c = 105 ∨ c = 113 ∨ c = 114) M M14 := Fr.tr fM8 fM140 fi_40
          have q97_12_M14 : (M14 97 12 = M 97 12) := (congrFun (fM140 97 (by first | decide | omega | (dsimp only; omega))) 12).trans q97_12_M8
          have q97_37_M14 : (M14 97 37 = M 97 37) := (congrFun (fM140 97 (by first | decide | omega | (dsimp only; omega))) 37).trans q97_37_M8
          have q97_38_M14 : (M14 97 38 = M 97 38) := (congrFun (fM140 97 (by first | decide | omega | (dsimp only; omega))) 38).trans q97_38_M8
          have q97_17_M14 : (M14 97 17 = M 97 17) := (congrFun (fM140 97 (by first | decide | omega | (dsimp only; omega))) 17).trans q97_17_M8
          have q97_33_M14 : (M14 97 33 = M 97 33) := (congrFun (fM140 97 (by first | decide | omega | (dsimp only; omega))) 33).trans q97_33_M8
          have q97_10_M14 : (M14 97 10 = M 97 10) := (congrFun (fM140 97 (by first | decide | omega | (dsimp only; omega))) 10).trans q97_10_M8
          have q97_44_M14 : (M14 97 44 = M 97 44) := (congrFun (fM140 97 (by first | decide | omega | (dsimp only; omega))) 44).trans q97_44_M8
          have q97_1_M14 : (M14 97 1 = M 97 1) := (congrFun (fM140 97 (by first | decide | omega | (dsimp only; omega))) 1).trans q97_1_M8
          have q99_0_M14 : (M14 99 0 = M 99 0) := (congrFun (fM140 99 (by first | decide | omega | (dsimp only; omega))) 0).trans q99_0_M8
          have q99_1_M14 : (M14 99 1 = M 99 1) := (congrFun (fM140 99 (by first | decide | omega | (dsimp only; omega))) 1).trans q99_1_M8
          have wM14_113_0 : M14 113 0 = M8 113 0 := (congrFun (fM140 113 (by first | decide | omega | (dsimp only; omega))) 0)
          have wM14_113_1 : M14 113 1 = M8 113 1 := (congrFun (fM140 113 (by first | decide | omega | (dsimp only; omega))) 1)
          have wM14_113_2 : M14 113 2 = M8 113 2 := (congrFun (fM140 113 (by first | decide | omega | (dsimp only; omega))) 2)
          have xM14_113_0 : M14 113 0 = v5 + 1 := (congrFun (fM140 113 (by first | decide | omega | (dsimp only; omega))) 0).trans xM8_113_0
          have kqM14 := KPk.cg (f' := M14 104) kqM8 pM14.2 (Int.le_refl _)
          have k0_M14 : ∀ j : Nat, j < 25 → M14 104 (50 + j) = M 101 j := fun j hj => (pM14.2 (50 + j) (by omega)).trans (k0_M8 j hj)
          refine g_if_eq (pc' := 105) (tgt := 51) ⟨by omega, by omega⟩ dX10_goThrough_102 rfl rfl (fun c15 => ?_) (fun c15 => ?_)
          · refine g_sub [0, 1, 2, 3] rfl ?_
            exact ih _ (by omega) mo 0 M14 iM14 fM14 q97_12_M14 q97_37_M14 q97_38_M14 q97_17_M14 q97_33_M14 q97_10_M14 q97_44_M14 q97_1_M14 q99_0_M14 q99_1_M14 (KPk.cg kqM14 (fun _ _ => rfl) (by omega)) (by omega) (by omega) (by omega) (mo - M14 113 0) 0 0 (by omega) (by omega) (by omega) k0_M14 rfl
          · refine g_iload_n (pc' := 106) 1 dX10_goThrough_105 rfl rfl ?_
            refine g_iload_n (pc' := 107) 3 dX10_goThrough_106 rfl rfl ?_
            refine g_iconst (pc' := 108) dX10_goThrough_107 rfl ?_
            refine g_isub (pc' := 109) dX10_goThrough_108 rfl ?_
            refine g_ic_ne (pc' := 112) (tgt := 127) (by decide) ⟨by omega, by omega⟩ dX10_goThrough_109 rfl rfl (fun c16 => ?_) (fun c16 => ?_)
            · refine g_iinc (pc' := 130) (L' := [(3, vi 1), (2, vi mo), (0, vr X 97), (1, vi n)]) 1 dX10_goThrough_127 rfl rfl (by decide) rfl ?_
              refine g_aload_n (pc' := 131) 2 dX10_goThrough_130 rfl rfl ?_
              refine g_bipush (pc' := 133) (v := 50) dX10_goThrough_131 rfl (by decide) ?_
              refine g_bipush (pc' := 135) (v := 25) dX10_goThrough_133 rfl (by decide) ?_
              refine g_iload_n (pc' := 136) 0 dX10_goThrough_135 rfl rfl ?_
              refine g_imul (pc' := 137) dX10_goThrough_136 rfl ?_
              refine g_iadd (pc' := 138) dX10_goThrough_137 rfl ?_
              refine g_callVv (pc' := 141) (As := [vi (50 + (25 * 1))]) (b := 97) (S := []) dX10_goThrough_138 rfl m_X10_123 w_X10_keep (c_X10_keep X M14 (50 + (25 * 1)) ⟨by omega, by omega⟩ ⟨by omega, by omega⟩) rfl ⟨_, _, _, rfl, rfl, rfl⟩ (by decide) (by decide) rfl (Nat.le_of_ble_eq_true rfl) (fun M18 q17 => ?_)
              obtain ⟨fkM18, kpM18, usM18⟩ := q17
              have iM18 : IM M18 := IM.fr iM14 fkM18 (fun c z => by omega)
              have fM18 : Fr (fun c => c = 97 ∨ c = 101 ∨ c = 104 ∨ c = 105 ∨ c = 113 ∨ c = 114) M M18 := Fr.tr fM14 fkM18 (fun c z => by first | omega | (dsimp only at z ⊢; omega))
              have q97_12_M18 : M18 97 12 = M 97 12 := (congrFun (fkM18 97 (by decide)) 12).trans q97_12_M14
              have q97_37_M18 : M18 97 37 = M 97 37 := (congrFun (fkM18 97 (by decide)) 37).trans q97_37_M14
              have q97_38_M18 : M18 97 38 = M 97 38 := (congrFun (fkM18 97 (by decide)) 38).trans q97_38_M14
              have q97_17_M18 : M18 97 17 = M 97 17 := (congrFun (fkM18 97 (by decide)) 17).trans q97_17_M14
              have q97_33_M18 : M18 97 33 = M 97 33 := (congrFun (fkM18 97 (by decide)) 33).trans q97_33_M14
              have q97_10_M18 : M18 97 10 = M 97 10 := (congrFun (fkM18 97 (by decide)) 10).trans q97_10_M14
              have q97_44_M18 : M18 97 44 = M 97 44 := (congrFun (fkM18 97 (by decide)) 44).trans q97_44_M14
              have q97_1_M18 : M18 97 1 = M 97 1 := (congrFun (fkM18 97 (by decide)) 1).trans q97_1_M14
              have q99_0_M18 : M18 99 0 = M 99 0 := (congrFun (fkM18 99 (by decide)) 0).trans q99_0_M14
              have q99_1_M18 : M18 99 1 = M 99 1 := (congrFun (fkM18 99 (by decide)) 1).trans q99_1_M14
              have wM18_113_0 : M18 113 0 = M14 113 0 := congrFun (fkM18 113 (by decide)) 0
              have wM18_113_1 : M18 113 1 = M14 113 1 := congrFun (fkM18 113 (by decide)) 1
              have wM18_113_2 : M18 113 2 = M14 113 2 := congrFun (fkM18 113 (by decide)) 2
              have xM18_113_0 : M18 113 0 = v5 + 1 := (congrFun (fkM18 113 (by decide)) 0).trans xM14_113_0
              have kqM18 : KPk (M18 104) 1 := KPk.push kqM14 kpM18 usM18 (by omega) (show (1 : Int) = 0 + 1 by decide) (by decide) iM14.2.1
              have k0_M18 : ∀ j : Nat, j < 25 → M18 104 (50 + j) = M 101 j := fun j hj => (usM18 (50 + j) (by omega)).trans (k0_M14 j hj)
              refine g_aload_n (pc' := 142) 2 dX10_goThrough_141 rfl rfl ?_
              refine g_getR (pc' := 145) dX10_goThrough_142 rfl f_X10_64 rfl rfl ?_
              refine g_iload_n (pc' := 146) 0 dX10_goThrough_145 rfl rfl ?_
              refine g_iconst (pc' := 147) dX10_goThrough_146 rfl ?_
              refine g_iast (pc' := 148) dX10_goThrough_147 rfl rfl (by decide) (by decide) (by decide) (fun M19 hM19 => ?_)
              have hM19 : M19 = mu M18 113 1 (-1) := hM19
              have iM19 : IM M19 := IM.wr iM18 hM19 (by unfold okv; first | decide | omega)
              have fM19 : Fr (fun c => c = 97 ∨ c = 101 ∨ c = 104 ∨ c = 105 ∨ c = 113 ∨ c = 114) M M19 := Fr.wr fM18 hM19 (by first | decide | omega | (dsimp only; omega))
              have q97_12_M19 : (M19 97 12 = M 97 12) := (show M19 97 12 = M18 97 12 by rw [hM19]; exact mu_ne _ _ (by first | decide | omega)).trans q97_12_M18
              have q97_37_M19 : (M19 97 37 = M 97 37) := (show M19 97 37 = M18 97 37 by rw [hM19]; exact mu_ne _ _ (by first | decide | omega)).trans q97_37_M18
              have q97_38_M19 : (M19 97 38 = M 97 38) := (show M19 97 38 = M18 97 38 by rw [hM19]; exact mu_ne _ _ (by first | decide | omega)).trans q97_38_M18
              have q97_17_M19 : (M19 97 17 = M 97 17) := (show M19 97 17 = M18 97 17 by rw [hM19]; exact mu_ne _ _ (by first | decide | omega)).trans q97_17_M18
              have q97_33_M19 : (M19 97 33 = M 97 33) := (show M19 97 33 = M18 97 33 by rw [hM19]; exact mu_ne _ _ (by first | decide | omega)).trans q97_33_M18
              have q97_10_M19 : (M19 97 10 = M 97 10) := (show M19 97 10 = M18 97 10 by rw [hM19]; exact mu_ne _ _ (by first | decide | omega)).trans q97_10_M18
              have q97_44_M19 : (M19 97 44 = M 97 44) := (show M19 97 44 = M18 97 44 by rw [hM19]; exact mu_ne _ _ (by first | decide | omega)).trans q97_44_M18
              have q97_1_M19 : (M19 97 1 = M 97 1) := (show M19 97 1 = M18 97 1 by rw [hM19]; exact mu_ne _ _ (by first | decide | omega)).trans q97_1_M18
              have q99_0_M19 : (M19 99 0 = M 99 0) := (show M19 99 0 = M18 99 0 by rw [hM19]; exact mu_ne _ _ (by first | decide | omega)).trans q99_0_M18
              have q99_1_M19 : (M19 99 1 = M 99 1) := (show M19 99 1 = M18 99 1 by rw [hM19]; exact mu_ne _ _ (by first | decide | omega)).trans q99_1_M18
              have wM19_113_0 : M19 113 0 = M18 113 0 := by rw [hM19]; exact mu_ne _ _ (by first | decide | omega)
              have wM19_113_2 : M19 113 2 = M18 113 2 := by rw [hM19]; exact mu_ne _ _ (by first | decide | omega)
              have xM19_113_0 : M19 113 0 = v5 + 1 := (show M19 113 0 = M18 113 0 by rw [hM19]; exact mu_ne _ _ (by first | decide | omega)).trans xM18_113_0
              have xM19_113_1 : M19 113 1 = (-1) := by rw [hM19]; exact mu_at _ _ _ _
              have kqM19 := KPk.cg (f' := M19 104) kqM18 (fun q _ => by rw [hM19, mu_cell _ _ (by decide)]) (Int.le_refl _)
              have k0_M19 : ∀ j : Nat, j < 25 → M19 104 (50 + j) = M 101 j := fun j hj => by rw [hM19, mu_cell _ _ (by decide)]; exact k0_M18 j hj
              refine g_goto (tgt := 51) dX10_goThrough_148 rfl ?_
              refine g_sub [1, 0, 2, 3] rfl ?_
              exact ih _ (by omega) mo 1 M19 iM19 fM19 q97_12_M19 q97_37_M19 q97_38_M19 q97_17_M19 q97_33_M19 q97_10_M19 q97_44_M19 q97_1_M19 q99_0_M19 q99_1_M19 (KPk.cg kqM19 (fun _ _ => rfl) (by omega)) (by omega) (by omega) (by omega) (mo - M19 113 0) (mo - M19 113 1) 0 (by omega) (by omega) (by omega) k0_M19 rfl
            · refine g_aload_n (pc' := 113) 2 dX10_goThrough_112 rfl rfl ?_
              refine g_callVip (pc' := 116) (As := []) (b := 97) (S := []) dX10_goThrough_113 rfl m_X10_360 w_X10_isWish (c_X10_isWish X M14 iM14 (by omega)) rfl ⟨_, _, _, rfl, rfl, rfl⟩ (by decide) (by decide) rfl (Nat.le_of_ble_eq_true rfl) (fun z21 q20 => ?_)
              refine g_if_eq (pc' := 119) (tgt := 51) ⟨by omega, by omega⟩ dX10_goThrough_116 rfl rfl (fun c22 => ?_) (fun c22 => ?_)
              · refine g_sub [0, 1, 2, 3] rfl ?_
                exact ih _ (by omega) mo 0 M14 iM14 fM14 q97_12_M14 q97_37_M14 q97_38_M14 q97_17_M14 q97_33_M14 q97_10_M14 q97_44_M14 q97_1_M14 q99_0_M14 q99_1_M14 (KPk.cg kqM14 (fun _ _ => rfl) (by omega)) (by omega) (by omega) (by omega) (mo - M14 113 0) 0 0 (by omega) (by omega) (by omega) k0_M14 rfl
              · refine g_aload_n (pc' := 120) 2 dX10_goThrough_119 rfl rfl ?_
                refine g_iload_n (pc' := 121) 3 dX10_goThrough_120 rfl rfl ?_
                refine g_callVv (pc' := 124) (As := [vi n]) (b := 97) (S := []) dX10_goThrough_121 rfl m_X10_366 w_X10_keepFirst (c_X10_keepFirst X M14 iM14 n hn (by omega)) rfl ⟨_, _, _, rfl, rfl, rfl⟩ (by decide) (by decide) rfl (Nat.le_of_ble_eq_true rfl) (fun M24 q23 => ?_)
                obtain ⟨iM24, fM240, eM24_97_12, eM24_97_37, eM24_97_38, eM24_97_17, eM24_97_33, eM24_97_10, eM24_97_44, eM24_97_1⟩ := q23
                have fM24 : Fr (fun c => c = 97 ∨ c = 101 ∨ c = 104 ∨ c = 105 ∨ c = 113 ∨ c = 114) M M24 := Fr.tr fM14 fM240 fi_41
                have q97_12_M24 : (M24 97 12 = M 97 12) := eM24_97_12.trans q97_12_M14
                have q97_37_M24 : (M24 97 37 = M 97 37) := eM24_97_37.trans q97_37_M14
                have q97_38_M24 : (M24 97 38 = M 97 38) := eM24_97_38.trans q97_38_M14
                have q97_17_M24 : (M24 97 17 = M 97 17) := eM24_97_17.trans q97_17_M14
                have q97_33_M24 : (M24 97 33 = M 97 33) := eM24_97_33.trans q97_33_M14
                have q97_10_M24 : (M24 97 10 = M 97 10) := eM24_97_10.trans q97_10_M14
                have q97_44_M24 : (M24 97 44 = M 97 44) := eM24_97_44.trans q97_44_M14
                have q97_1_M24 : (M24 97 1 = M 97 1) := eM24_97_1.trans q97_1_M14
                have q99_0_M24 : (M24 99 0 = M 99 0) := (congrFun (fM240 99 (by first | decide | omega | (dsimp only; omega))) 0).trans q99_0_M14
                have q99_1_M24 : (M24 99 1 = M 99 1) := (congrFun (fM240 99 (by first | decide | omega | (dsimp only; omega))) 1).trans q99_1_M14
                have wM24_113_0 : M24 113 0 = M14 113 0 := (congrFun (fM240 113 (by first | decide | omega | (dsimp only; omega))) 0)
                have wM24_113_1 : M24 113 1 = M14 113 1 := (congrFun (fM240 113 (by first | decide | omega | (dsimp only; omega))) 1)
                have wM24_113_2 : M24 113 2 = M14 113 2 := (congrFun (fM240 113 (by first | decide | omega | (dsimp only; omega))) 2)
                have xM24_113_0 : M24 113 0 = v5 + 1 := (congrFun (fM240 113 (by first | decide | omega | (dsimp only; omega))) 0).trans xM14_113_0
                have kqM24 := KPk.cg (f' := M24 104) kqM14 (fun q _ => congrFun (fM240 104 (by decide)) q) (Int.le_refl _)
                have k0_M24 : ∀ j : Nat, j < 25 → M24 104 (50 + j) = M 101 j := fun j hj => (congrFun (fM240 104 (by decide)) _).trans (k0_M14 j hj)
                refine g_goto (tgt := 51) dX10_goThrough_124 rfl ?_
                refine g_sub [0, 1, 2, 3] rfl ?_
                exact ih _ (by omega) mo 0 M24 iM24 fM24 q97_12_M24 q97_37_M24 q97_38_M24 q97_17_M24 q97_33_M24 q97_10_M24 q97_44_M24 q97_1_M24 q99_0_M24 q99_1_M24 (KPk.cg kqM24 (fun _ _ => rfl) (by omega)) (by omega) (by omega) (by omega) (mo - M24 113 0) 0 0 (by omega) (by omega) (by omega) k0_M24 rfl
        · refine g_iinc (pc' := 89) (L' := [(3, vi (-1)), (2, vi mo), (0, vr X 97), (1, vi n)]) 1 dX10_goThrough_86 rfl rfl (by decide) rfl ?_
          refine g_goto (tgt := 51) dX10_goThrough_89 rfl ?_
          refine g_sub [1, 0, 2, 3] rfl ?_
          exact ih _ (by omega) mo (-1) M8 iM8 fM8 q97_12_M8 q97_37_M8 q97_38_M8 q97_17_M8 q97_33_M8 q97_10_M8 q97_44_M8 q97_1_M8 q99_0_M8 q99_1_M8 (KPk.cg kqM8 (fun _ _ => rfl) (by omega)) (by omega) (by omega) (by omega) 0 0 0 (by omega) (by omega) (by omega) k0_M8 rfl
    · refine g_iload_n (pc' := 52) 1 dX10_goThrough_51 rfl rfl ?_
      refine g_if_lt (pc' := 55) (tgt := 151) (by decide) dX10_goThrough_52 rfl rfl (fun c25 => ?_) (fun c25 => ?_)
      · exact absurd c25 (by omega)
      · refine g_aload_n (pc' := 56) 2 dX10_goThrough_55 rfl rfl ?_
        refine g_getR (pc' := 59) dX10_goThrough_56 rfl f_X10_64 rfl rfl ?_
        refine g_iload_n (pc' := 60) 1 dX10_goThrough_59 rfl rfl ?_
        refine g_dup2_11 (pc' := 61) dX10_goThrough_60 rfl rfl rfl ?_
        refine g_iald (pc' := 62) dX10_goThrough_61 rfl rfl (by decide) (by decide) (fun v26 ev26 rv26 => ?_)
        have ev26 : v26 = M1 113 1 := ev26
        refine g_iconst (pc' := 63) dX10_goThrough_62 rfl ?_
        refine g_iadd (pc' := 64) dX10_goThrough_63 rfl ?_
        refine g_iast (pc' := 65) dX10_goThrough_64 rfl rfl (by decide) (by decide) ⟨by omega, by omega⟩ (fun M27 hM27 => ?_)
        have hM27 : M27 = mu M1 113 1 (v26 + 1) := hM27
        have iM27 : IM M27 := IM.wr ic1 hM27 (by unfold okv; first | decide | omega)
        have fM27 : Fr (fun c => c = 97 ∨ c = 101 ∨ c = 104 ∨ c = 105 ∨ c = 113 ∨ c = 114) M M27 := Fr.wr fr1 hM27 (by first | decide | omega | (dsimp only; omega))
        have q97_12_M27 : (M27 97 12 = M 97 12) := (show M27 97 12 = M1 97 12 by rw [hM27]; exact mu_ne _ _ (by first | decide | omega)).trans q97_12
        have q97_37_M27 : (M27 97 37 = M 97 37) := (show M27 97 37 = M1 97 37 by rw [hM27]; exact mu_ne _ _ (by first | decide | omega)).trans q97_37
        have q97_38_M27 : (M27 97 38 = M 97 38) := (show M27 97 38 = M1 97 38 by rw [hM27]; exact mu_ne _ _ (by first | decide | omega)).trans q97_38
        have q97_17_M27 : (M27 97 17 = M 97 17) := (show M27 97 17 = M1 97 17 by rw [hM27]; exact mu_ne _ _ (by first | decide | omega)).trans q97_17
        have q97_33_M27 : (M27 97 33 = M 97 33) := (show M27 97 33 = M1 97 33 by rw [hM27]; exact mu_ne _ _ (by first | decide | omega)).trans q97_33
        have q97_10_M27 : (M27 97 10 = M 97 10) := (show M27 97 10 = M1 97 10 by rw [hM27]; exact mu_ne _ _ (by first | decide | omega)).trans q97_10
        have q97_44_M27 : (M27 97 44 = M 97 44) := (show M27 97 44 = M1 97 44 by rw [hM27]; exact mu_ne _ _ (by first | decide | omega)).trans q97_44
        have q97_1_M27 : (M27 97 1 = M 97 1) := (show M27 97 1 = M1 97 1 by rw [hM27]; exact mu_ne _ _ (by first | decide | omega)).trans q97_1
        have q99_0_M27 : (M27 99 0 = M 99 0) := (show M27 99 0 = M1 99 0 by rw [hM27]; exact mu_ne _ _ (by first | decide | omega)).trans q99_0
        have q99_1_M27 : (M27 99 1 = M 99 1) := (show M27 99 1 = M1 99 1 by rw [hM27]; exact mu_ne _ _ (by first | decide | omega)).trans q99_1
        have wM27_113_0 : M27 113 0 = M1 113 0 := by rw [hM27]; exact mu_ne _ _ (by first | decide | omega)
        have wM27_113_2 : M27 113 2 = M1 113 2 := by rw [hM27]; exact mu_ne _ _ (by first | decide | omega)
        have xM27_113_1 : M27 113 1 = v26 + 1 := by rw [hM27]; exact mu_at _ _ _ _
        have kqM27 := KPk.cg (f' := M27 104) kp (fun q _ => by rw [hM27, mu_cell _ _ (by decide)]) (Int.le_refl _)
        have k0_M27 : ∀ j : Nat, j < 25 → M27 104 (50 + j) = M 101 j := fun j hj => by rw [hM27, mu_cell _ _ (by decide)]; exact k0_ j hj
        refine g_aload_n (pc' := 66) 2 dX10_goThrough_65 rfl rfl ?_
        refine g_bipush (pc' := 68) (v := 50) dX10_goThrough_66 rfl (by decide) ?_
        refine g_bipush (pc' := 70) (v := 25) dX10_goThrough_68 rfl (by decide) ?_
        refine g_iload_n (pc' := 71) 1 dX10_goThrough_70 rfl rfl ?_
        refine g_imul (pc' := 72) dX10_goThrough_71 rfl ?_
        refine g_iadd (pc' := 73) dX10_goThrough_72 rfl ?_
        refine g_callVv (pc' := 76) (As := [vi (50 + (25 * 1))]) (b := 97) (S := []) dX10_goThrough_73 rfl m_X10_132 w_X10_putBack (c_X10_putBack X M27 (50 + (25 * 1)) ⟨by omega, by omega⟩ ⟨by omega, by omega⟩) rfl ⟨_, _, _, rfl, rfl, rfl⟩ (by decide) (by decide) rfl (Nat.le_of_ble_eq_true rfl) (fun M29 q28 => ?_)
        obtain ⟨fbM29, pbM29⟩ := q28
        have iM29 : IM M29 := IM.parts iM27 fbM29 (fun c z => by omega) (KPk.get kqM27 (j := 1) (by omega) (by decide) pbM29)
        have fM29 : Fr (fun c => c = 97 ∨ c = 101 ∨ c = 104 ∨ c = 105 ∨ c = 113 ∨ c = 114) M M29 := Fr.tr fM27 fbM29 (fun c z => by first | omega | (dsimp only at z ⊢; omega))
        have q97_12_M29 : M29 97 12 = M 97 12 := (congrFun (fbM29 97 (by decide)) 12).trans q97_12_M27
        have q97_37_M29 : M29 97 37 = M 97 37 := (congrFun (fbM29 97 (by decide)) 37).trans q97_37_M27
        have q97_38_M29 : M29 97 38 = M 97 38 := (congrFun (fbM29 97 (by decide)) 38).trans q97_38_M27
        have q97_17_M29 : M29 97 17 = M 97 17 := (congrFun (fbM29 97 (by decide)) 17).trans q97_17_M27
        have q97_33_M29 : M29 97 33 = M 97 33 := (congrFun (fbM29 97 (by decide)) 33).trans q97_33_M27
        have q97_10_M29 : M29 97 10 = M 97 10 := (congrFun (fbM29 97 (by decide)) 10).trans q97_10_M27
        have q97_44_M29 : M29 97 44 = M 97 44 := (congrFun (fbM29 97 (by decide)) 44).trans q97_44_M27
        have q97_1_M29 : M29 97 1 = M 97 1 := (congrFun (fbM29 97 (by decide)) 1).trans q97_1_M27
        have q99_0_M29 : M29 99 0 = M 99 0 := (congrFun (fbM29 99 (by decide)) 0).trans q99_0_M27
        have q99_1_M29 : M29 99 1 = M 99 1 := (congrFun (fbM29 99 (by decide)) 1).trans q99_1_M27
        have wM29_113_0 : M29 113 0 = M27 113 0 := congrFun (fbM29 113 (by decide)) 0
        have wM29_113_1 : M29 113 1 = M27 113 1 := congrFun (fbM29 113 (by decide)) 1
        have wM29_113_2 : M29 113 2 = M27 113 2 := congrFun (fbM29 113 (by decide)) 2
        have xM29_113_1 : M29 113 1 = v26 + 1 := (congrFun (fbM29 113 (by decide)) 1).trans xM27_113_1
        have kqM29 := KPk.cg (f' := M29 104) kqM27 (fun q _ => congrFun (fbM29 104 (by decide)) q) (Int.le_refl _)
        have k0_M29 : ∀ j : Nat, j < 25 → M29 104 (50 + j) = M 101 j := fun j hj => (congrFun (fbM29 104 (by decide)) _).trans (k0_M27 j hj)
        refine g_aload_n (pc' := 77) 2 dX10_goThrough_76 rfl rfl ?_
        refine g_getR (pc' := 80) dX10_goThrough_77 rfl f_X10_64 rfl rfl ?_
        refine g_iload_n (pc' := 81) 1 dX10_goThrough_80 rfl rfl ?_
        refine g_iald (pc' := 82) dX10_goThrough_81 rfl rfl (by decide) (by decide) (fun v30 ev30 rv30 => ?_)
        have ev30 : v30 = M29 113 1 := ev30
        have yv30 : v30 = v26 + 1 := ev30.trans xM29_113_1
        refine g_iload_n (pc' := 83) 0 dX10_goThrough_82 rfl rfl ?_
        refine g_ic_ne (pc' := 86) (tgt := 92) rv30 ⟨by omega, by omega⟩ dX10_goThrough_83 rfl rfl (fun c31 => ?_) (fun c31 => ?_)
        · refine g_aload_n (pc' := 93) 2 dX10_goThrough_92 rfl rfl ?_
          refine g_aload_n (pc' := 94) 2 dX10_goThrough_93 rfl rfl ?_
          refine g_getR (pc' := 97) dX10_goThrough_94 rfl f_X10_64 rfl rfl ?_
          refine g_iload_n (pc' := 98) 1 dX10_goThrough_97 rfl rfl ?_
          refine g_iald (pc' := 99) dX10_goThrough_98 rfl rfl (by decide) (by decide) (fun v32 ev32 rv32 => ?_)
          have ev32 : v32 = M29 113 1 := ev32
          obtain rfl : v30 = v32 := ev30.trans ev32.symm
          refine g_callVi (pc' := 102) (As := [vi v30]) (b := 97) (S := []) dX10_goThrough_99 rfl m_X10_363 w_X10_goes (c_X10_goes X M29 iM29 v30 rv30 (by omega)) rfl ⟨_, _, _, rfl, rfl, rfl⟩ (by decide) (by decide) rfl (Nat.le_of_ble_eq_true rfl) (fun z34 M35 q33 => ?_)
          obtain ⟨iM35, fM350, pM35⟩ := q33
          have fM35 : Fr (fun c => c = 97 ∨ c = 101 ∨ c = 104 ∨ c = 105 ∨ c = 113 ∨ c = 114) M M35 := Fr.tr fM29 fM350 fi_40
          have q97_12_M35 : (M35 97 12 = M 97 12) := (congrFun (fM350 97 (by first | decide | omega | (dsimp only; omega))) 12).trans q97_12_M29
          have q97_37_M35 : (M35 97 37 = M 97 37) := (congrFun (fM350 97 (by first | decide | omega | (dsimp only; omega))) 37).trans q97_37_M29
          have q97_38_M35 : (M35 97 38 = M 97 38) := (congrFun (fM350 97 (by first | decide | omega | (dsimp only; omega))) 38).trans q97_38_M29
          have q97_17_M35 : (M35 97 17 = M 97 17) := (congrFun (fM350 97 (by first | decide | omega | (dsimp only; omega))) 17).trans q97_17_M29
          have q97_33_M35 : (M35 97 33 = M 97 33) := (congrFun (fM350 97 (by first | decide | omega | (dsimp only; omega))) 33).trans q97_33_M29
          have q97_10_M35 : (M35 97 10 = M 97 10) := (congrFun (fM350 97 (by first | decide | omega | (dsimp only; omega))) 10).trans q97_10_M29
          have q97_44_M35 : (M35 97 44 = M 97 44) := (congrFun (fM350 97 (by first | decide | omega | (dsimp only; omega))) 44).trans q97_44_M29
          have q97_1_M35 : (M35 97 1 = M 97 1) := (congrFun (fM350 97 (by first | decide | omega | (dsimp only; omega))) 1).trans q97_1_M29
          have q99_0_M35 : (M35 99 0 = M 99 0) := (congrFun (fM350 99 (by first | decide | omega | (dsimp only; omega))) 0).trans q99_0_M29
          have q99_1_M35 : (M35 99 1 = M 99 1) := (congrFun (fM350 99 (by first | decide | omega | (dsimp only; omega))) 1).trans q99_1_M29
          have wM35_113_0 : M35 113 0 = M29 113 0 := (congrFun (fM350 113 (by first | decide | omega | (dsimp only; omega))) 0)
          have wM35_113_1 : M35 113 1 = M29 113 1 := (congrFun (fM350 113 (by first | decide | omega | (dsimp only; omega))) 1)
          have wM35_113_2 : M35 113 2 = M29 113 2 := (congrFun (fM350 113 (by first | decide | omega | (dsimp only; omega))) 2)
          have xM35_113_1 : M35 113 1 = v26 + 1 := (congrFun (fM350 113 (by first | decide | omega | (dsimp only; omega))) 1).trans xM29_113_1
          have kqM35 := KPk.cg (f' := M35 104) kqM29 pM35.2 (Int.le_refl _)
          have k0_M35 : ∀ j : Nat, j < 25 → M35 104 (50 + j) = M 101 j := fun j hj => (pM35.2 (50 + j) (by omega)).trans (k0_M29 j hj)
          refine g_if_eq (pc' := 105) (tgt := 51) ⟨by omega, by omega⟩ dX10_goThrough_102 rfl rfl (fun c36 => ?_) (fun c36 => ?_)
          · refine g_sub [0, 1, 2, 3] rfl ?_
            exact ih _ (by omega) mo 1 M35 iM35 fM35 q97_12_M35 q97_37_M35 q97_38_M35 q97_17_M35 q97_33_M35 q97_10_M35 q97_44_M35 q97_1_M35 q99_0_M35 q99_1_M35 (KPk.cg kqM35 (fun _ _ => rfl) (by omega)) (by omega) (by omega) (by omega) (mo - M35 113 0) (mo - M35 113 1) 0 (by omega) (by omega) (by omega) k0_M35 rfl
          · refine g_iload_n (pc' := 106) 1 dX10_goThrough_105 rfl rfl ?_
            refine g_iload_n (pc' := 107) 3 dX10_goThrough_106 rfl rfl ?_
            refine g_iconst (pc' := 108) dX10_goThrough_107 rfl ?_
            refine g_isub (pc' := 109) dX10_goThrough_108 rfl ?_
            refine g_ic_ne (pc' := 112) (tgt := 127) (by decide) ⟨by omega, by omega⟩ dX10_goThrough_109 rfl rfl (fun c37 => ?_) (fun c37 => ?_)
            · refine g_iinc (pc' := 130) (L' := [(3, vi 2), (2, vi mo), (0, vr X 97), (1, vi n)]) 1 dX10_goThrough_127 rfl rfl (by decide) rfl ?_
              refine g_aload_n (pc' := 131) 2 dX10_goThrough_130 rfl rfl ?_
              refine g_bipush (pc' := 133) (v := 50) dX10_goThrough_131 rfl (by decide) ?_
              refine g_bipush (pc' := 135) (v := 25) dX10_goThrough_133 rfl (by decide) ?_
              refine g_iload_n (pc' := 136) 0 dX10_goThrough_135 rfl rfl ?_
              refine g_imul (pc' := 137) dX10_goThrough_136 rfl ?_
              refine g_iadd (pc' := 138) dX10_goThrough_137 rfl ?_
              refine g_callVv (pc' := 141) (As := [vi (50 + (25 * 2))]) (b := 97) (S := []) dX10_goThrough_138 rfl m_X10_123 w_X10_keep (c_X10_keep X M35 (50 + (25 * 2)) ⟨by omega, by omega⟩ ⟨by omega, by omega⟩) rfl ⟨_, _, _, rfl, rfl, rfl⟩ (by decide) (by decide) rfl (Nat.le_of_ble_eq_true rfl) (fun M39 q38 => ?_)
              obtain ⟨fkM39, kpM39, usM39⟩ := q38
              have iM39 : IM M39 := IM.fr iM35 fkM39 (fun c z => by omega)
              have fM39 : Fr (fun c => c = 97 ∨ c = 101 ∨ c = 104 ∨ c = 105 ∨ c = 113 ∨ c = 114) M M39 := Fr.tr fM35 fkM39 (fun c z => by first | omega | (dsimp only at z ⊢; omega))
              have q97_12_M39 : M39 97 12 = M 97 12 := (congrFun (fkM39 97 (by decide)) 12).trans q97_12_M35
              have q97_37_M39 : M39 97 37 = M 97 37 := (congrFun (fkM39 97 (by decide)) 37).trans q97_37_M35
              have q97_38_M39 : M39 97 38 = M 97 38 := (congrFun (fkM39 97 (by decide)) 38).trans q97_38_M35
              have q97_17_M39 : M39 97 17 = M 97 17 := (congrFun (fkM39 97 (by decide)) 17).trans q97_17_M35
              have q97_33_M39 : M39 97 33 = M 97 33 := (congrFun (fkM39 97 (by decide)) 33).trans q97_33_M35
              have q97_10_M39 : M39 97 10 = M 97 10 := (congrFun (fkM39 97 (by decide)) 10).trans q97_10_M35
              have q97_44_M39 : M39 97 44 = M 97 44 := (congrFun (fkM39 97 (by decide)) 44).trans q97_44_M35
              have q97_1_M39 : M39 97 1 = M 97 1 := (congrFun (fkM39 97 (by decide)) 1).trans q97_1_M35
              have q99_0_M39 : M39 99 0 = M 99 0 := (congrFun (fkM39 99 (by decide)) 0).trans q99_0_M35
              have q99_1_M39 : M39 99 1 = M 99 1 := (congrFun (fkM39 99 (by decide)) 1).trans q99_1_M35
              have wM39_113_0 : M39 113 0 = M35 113 0 := congrFun (fkM39 113 (by decide)) 0
              have wM39_113_1 : M39 113 1 = M35 113 1 := congrFun (fkM39 113 (by decide)) 1
              have wM39_113_2 : M39 113 2 = M35 113 2 := congrFun (fkM39 113 (by decide)) 2
              have xM39_113_1 : M39 113 1 = v26 + 1 := (congrFun (fkM39 113 (by decide)) 1).trans xM35_113_1
              have kqM39 : KPk (M39 104) 2 := KPk.push kqM35 kpM39 usM39 (by omega) (show (2 : Int) = 1 + 1 by decide) (by decide) iM35.2.1
              have k0_M39 : ∀ j : Nat, j < 25 → M39 104 (50 + j) = M 101 j := fun j hj => (usM39 (50 + j) (by omega)).trans (k0_M35 j hj)
              refine g_aload_n (pc' := 142) 2 dX10_goThrough_141 rfl rfl ?_
              refine g_getR (pc' := 145) dX10_goThrough_142 rfl f_X10_64 rfl rfl ?_
              refine g_iload_n (pc' := 146) 0 dX10_goThrough_145 rfl rfl ?_
              refine g_iconst (pc' := 147) dX10_goThrough_146 rfl ?_
              refine g_iast (pc' := 148) dX10_goThrough_147 rfl rfl (by decide) (by decide) (by decide) (fun M40 hM40 => ?_)
              have hM40 : M40 = mu M39 113 2 (-1) := hM40
              have iM40 : IM M40 := IM.wr iM39 hM40 (by unfold okv; first | decide | omega)
              have fM40 : Fr (fun c => c = 97 ∨ c = 101 ∨ c = 104 ∨ c = 105 ∨ c = 113 ∨ c = 114) M M40 := Fr.wr fM39 hM40 (by first | decide | omega | (dsimp only; omega))
              have q97_12_M40 : (M40 97 12 = M 97 12) := (show M40 97 12 = M39 97 12 by rw [hM40]; exact mu_ne _ _ (by first | decide | omega)).trans q97_12_M39
              have q97_37_M40 : (M40 97 37 = M 97 37) := (show M40 97 37 = M39 97 37 by rw [hM40]; exact mu_ne _ _ (by first | decide | omega)).trans q97_37_M39
              have q97_38_M40 : (M40 97 38 = M 97 38) := (show M40 97 38 = M39 97 38 by rw [hM40]; exact mu_ne _ _ (by first | decide | omega)).trans q97_38_M39
              have q97_17_M40 : (M40 97 17 = M 97 17) := (show M40 97 17 = M39 97 17 by rw [hM40]; exact mu_ne _ _ (by first | decide | omega)).trans q97_17_M39
              have q97_33_M40 : (M40 97 33 = M 97 33) := (show M40 97 33 = M39 97 33 by rw [hM40]; exact mu_ne _ _ (by first | decide | omega)).trans q97_33_M39
              have q97_10_M40 : (M40 97 10 = M 97 10) := (show M40 97 10 = M39 97 10 by rw [hM40]; exact mu_ne _ _ (by first | decide | omega)).trans q97_10_M39
              have q97_44_M40 : (M40 97 44 = M 97 44) := (show M40 97 44 = M39 97 44 by rw [hM40]; exact mu_ne _ _ (by first | decide | omega)).trans q97_44_M39
              have q97_1_M40 : (M40 97 1 = M 97 1) := (show M40 97 1 = M39 97 1 by rw [hM40]; exact mu_ne _ _ (by first | decide | omega)).trans q97_1_M39
              have q99_0_M40 : (M40 99 0 = M 99 0) := (show M40 99 0 = M39 99 0 by rw [hM40]; exact mu_ne _ _ (by first | decide | omega)).trans q99_0_M39
              have q99_1_M40 : (M40 99 1 = M 99 1) := (show M40 99 1 = M39 99 1 by rw [hM40]; exact mu_ne _ _ (by first | decide | omega)).trans q99_1_M39
              have wM40_113_0 : M40 113 0 = M39 113 0 := by rw [hM40]; exact mu_ne _ _ (by first | decide | omega)
              have wM40_113_1 : M40 113 1 = M39 113 1 := by rw [hM40]; exact mu_ne _ _ (by first | decide | omega)
              have xM40_113_1 : M40 113 1 = v26 + 1 := (show M40 113 1 = M39 113 1 by rw [hM40]; exact mu_ne _ _ (by first | decide | omega)).trans xM39_113_1
              have xM40_113_2 : M40 113 2 = (-1) := by rw [hM40]; exact mu_at _ _ _ _
              have kqM40 := KPk.cg (f' := M40 104) kqM39 (fun q _ => by rw [hM40, mu_cell _ _ (by decide)]) (Int.le_refl _)
              have k0_M40 : ∀ j : Nat, j < 25 → M40 104 (50 + j) = M 101 j := fun j hj => by rw [hM40, mu_cell _ _ (by decide)]; exact k0_M39 j hj
              refine g_goto (tgt := 51) dX10_goThrough_148 rfl ?_
              refine g_sub [1, 0, 2, 3] rfl ?_
              exact ih _ (by omega) mo 2 M40 iM40 fM40 q97_12_M40 q97_37_M40 q97_38_M40 q97_17_M40 q97_33_M40 q97_10_M40 q97_44_M40 q97_1_M40 q99_0_M40 q99_1_M40 (KPk.cg kqM40 (fun _ _ => rfl) (by omega)) (by omega) (by omega) (by omega) (mo - M40 113 0) (mo - M40 113 1) (mo - M40 113 2) (by omega) (by omega) (by omega) k0_M40 rfl
            · refine g_aload_n (pc' := 113) 2 dX10_goThrough_112 rfl rfl ?_
              refine g_callVip (pc' := 116) (As := []) (b := 97) (S := []) dX10_goThrough_113 rfl m_X10_360 w_X10_isWish (c_X10_isWish X M35 iM35 (by omega)) rfl ⟨_, _, _, rfl, rfl, rfl⟩ (by decide) (by decide) rfl (Nat.le_of_ble_eq_true rfl) (fun z42 q41 => ?_)
              refine g_if_eq (pc' := 119) (tgt := 51) ⟨by omega, by omega⟩ dX10_goThrough_116 rfl rfl (fun c43 => ?_) (fun c43 => ?_)
              · refine g_sub [0, 1, 2, 3] rfl ?_
                exact ih _ (by omega) mo 1 M35 iM35 fM35 q97_12_M35 q97_37_M35 q97_38_M35 q97_17_M35 q97_33_M35 q97_10_M35 q97_44_M35 q97_1_M35 q99_0_M35 q99_1_M35 (KPk.cg kqM35 (fun _ _ => rfl) (by omega)) (by omega) (by omega) (by omega) (mo - M35 113 0) (mo - M35 113 1) 0 (by omega) (by omega) (by omega) k0_M35 rfl
              · refine g_aload_n (pc' := 120) 2 dX10_goThrough_119 rfl rfl ?_
                refine g_iload_n (pc' := 121) 3 dX10_goThrough_120 rfl rfl ?_
                refine g_callVv (pc' := 124) (As := [vi n]) (b := 97) (S := []) dX10_goThrough_121 rfl m_X10_366 w_X10_keepFirst (c_X10_keepFirst X M35 iM35 n hn (by omega)) rfl ⟨_, _, _, rfl, rfl, rfl⟩ (by decide) (by decide) rfl (Nat.le_of_ble_eq_true rfl) (fun M45 q44 => ?_)
                obtain ⟨iM45, fM450, eM45_97_12, eM45_97_37, eM45_97_38, eM45_97_17, eM45_97_33, eM45_97_10, eM45_97_44, eM45_97_1⟩ := q44
                have fM45 : Fr (fun c => c = 97 ∨ c = 101 ∨ c = 104 ∨ c = 105 ∨ c = 113 ∨ c = 114) M M45 := Fr.tr fM35 fM450 fi_41
                have q97_12_M45 : (M45 97 12 = M 97 12) := eM45_97_12.trans q97_12_M35
                have q97_37_M45 : (M45 97 37 = M 97 37) := eM45_97_37.trans q97_37_M35
                have q97_38_M45 : (M45 97 38 = M 97 38) := eM45_97_38.trans q97_38_M35
                have q97_17_M45 : (M45 97 17 = M 97 17) := eM45_97_17.trans q97_17_M35
                have q97_33_M45 : (M45 97 33 = M 97 33) := eM45_97_33.trans q97_33_M35
                have q97_10_M45 : (M45 97 10 = M 97 10) := eM45_97_10.trans q97_10_M35
                have q97_44_M45 : (M45 97 44 = M 97 44) := eM45_97_44.trans q97_44_M35
                have q97_1_M45 : (M45 97 1 = M 97 1) := eM45_97_1.trans q97_1_M35
                have q99_0_M45 : (M45 99 0 = M 99 0) := (congrFun (fM450 99 (by first | decide | omega | (dsimp only; omega))) 0).trans q99_0_M35
                have q99_1_M45 : (M45 99 1 = M 99 1) := (congrFun (fM450 99 (by first | decide | omega | (dsimp only; omega))) 1).trans q99_1_M35
                have wM45_113_0 : M45 113 0 = M35 113 0 := (congrFun (fM450 113 (by first | decide | omega | (dsimp only; omega))) 0)
                have wM45_113_1 : M45 113 1 = M35 113 1 := (congrFun (fM450 113 (by first | decide | omega | (dsimp only; omega))) 1)
                have wM45_113_2 : M45 113 2 = M35 113 2 := (congrFun (fM450 113 (by first | decide | omega | (dsimp only; omega))) 2)
                have xM45_113_1 : M45 113 1 = v26 + 1 := (congrFun (fM450 113 (by first | decide | omega | (dsimp only; omega))) 1).trans xM35_113_1
                have kqM45 := KPk.cg (f' := M45 104) kqM35 (fun q _ => congrFun (fM450 104 (by decide)) q) (Int.le_refl _)
                have k0_M45 : ∀ j : Nat, j < 25 → M45 104 (50 + j) = M 101 j := fun j hj => (congrFun (fM450 104 (by decide)) _).trans (k0_M35 j hj)
                refine g_goto (tgt := 51) dX10_goThrough_124 rfl ?_
                refine g_sub [0, 1, 2, 3] rfl ?_
                exact ih _ (by omega) mo 1 M45 iM45 fM45 q97_12_M45 q97_37_M45 q97_38_M45 q97_17_M45 q97_33_M45 q97_10_M45 q97_44_M45 q97_1_M45 q99_0_M45 q99_1_M45 (KPk.cg kqM45 (fun _ _ => rfl) (by omega)) (by omega) (by omega) (by omega) (mo - M45 113 0) (mo - M45 113 1) 0 (by omega) (by omega) (by omega) k0_M45 rfl
        · refine g_iinc (pc' := 89) (L' := [(3, vi 0), (2, vi mo), (0, vr X 97), (1, vi n)]) 1 dX10_goThrough_86 rfl rfl (by decide) rfl ?_
          refine g_goto (tgt := 51) dX10_goThrough_89 rfl ?_
          refine g_sub [1, 0, 2, 3] rfl ?_
          exact ih _ (by omega) mo 0 M29 iM29 fM29 q97_12_M29 q97_37_M29 q97_38_M29 q97_17_M29 q97_33_M29 q97_10_M29 q97_44_M29 q97_1_M29 q99_0_M29 q99_1_M29 (KPk.cg kqM29 (fun _ _ => rfl) (by omega)) (by omega) (by omega) (by omega) (mo - M29 113 0) 0 0 (by omega) (by omega) (by omega) k0_M29 rfl
    · refine g_iload_n (pc' := 52) 1 dX10_goThrough_51 rfl rfl ?_
      refine g_if_lt (pc' := 55) (tgt := 151) (by decide) dX10_goThrough_52 rfl rfl (fun c46 => ?_) (fun c46 => ?_)
      · exact absurd c46 (by omega)
      · refine g_aload_n (pc' := 56) 2 dX10_goThrough_55 rfl rfl ?_
        refine g_getR (pc' := 59) dX10_goThrough_56 rfl f_X10_64 rfl rfl ?_
        refine g_iload_n (pc' := 60) 1 dX10_goThrough_59 rfl rfl ?_
        refine g_dup2_11 (pc' := 61) dX10_goThrough_60 rfl rfl rfl ?_
        refine g_iald (pc' := 62) dX10_goThrough_61 rfl rfl (by decide) (by decide) (fun v47 ev47 rv47 => ?_)
        have ev47 : v47 = M1 113 2 := ev47
        refine g_iconst (pc' := 63) dX10_goThrough_62 rfl ?_
        refine g_iadd (pc' := 64) dX10_goThrough_63 rfl ?_
        refine g_iast (pc' := 65) dX10_goThrough_64 rfl rfl (by decide) (by decide) ⟨by omega, by omega⟩ (fun M48 hM48 => ?_)
        have hM48 : M48 = mu M1 113 2 (v47 + 1) := hM48
        have iM48 : IM M48 := IM.wr ic1 hM48 (by unfold okv; first | decide | omega)
        have fM48 : Fr (fun c => c = 97 ∨ c = 101 ∨ c = 104 ∨ c = 105 ∨ c = 113 ∨ c = 114) M M48 := Fr.wr fr1 hM48 (by first | decide | omega | (dsimp only; omega))
        have q97_12_M48 : (M48 97 12 = M 97 12) := (show M48 97 12 = M1 97 12 by rw [hM48]; exact mu_ne _ _ (by first | decide | omega)).trans q97_12
        have q97_37_M48 : (M48 97 37 = M 97 37) := (show M48 97 37 = M1 97 37 by rw [hM48]; exact mu_ne _ _ (by first | decide | omega)).trans q97_37
        have q97_38_M48 : (M48 97 38 = M 97 38) := (show M48 97 38 = M1 97 38 by rw [hM48]; exact mu_ne _ _ (by first | decide | omega)).trans q97_38
        have q97_17_M48 : (M48 97 17 = M 97 17) := (show M48 97 17 = M1 97 17 by rw [hM48]; exact mu_ne _ _ (by first | decide | omega)).trans q97_17
        have q97_33_M48 : (M48 97 33 = M 97 33) := (show M48 97 33 = M1 97 33 by rw [hM48]; exact mu_ne _ _ (by first | decide | omega)).trans q97_33
        have q97_10_M48 : (M48 97 10 = M 97 10) := (show M48 97 10 = M1 97 10 by rw [hM48]; exact mu_ne _ _ (by first | decide | omega)).trans q97_10
        have q97_44_M48 : (M48 97 44 = M 97 44) := (show M48 97 44 = M1 97 44 by rw [hM48]; exact mu_ne _ _ (by first | decide | omega)).trans q97_44
        have q97_1_M48 : (M48 97 1 = M 97 1) := (show M48 97 1 = M1 97 1 by rw [hM48]; exact mu_ne _ _ (by first | decide | omega)).trans q97_1
        have q99_0_M48 : (M48 99 0 = M 99 0) := (show M48 99 0 = M1 99 0 by rw [hM48]; exact mu_ne _ _ (by first | decide | omega)).trans q99_0
        have q99_1_M48 : (M48 99 1 = M 99 1) := (show M48 99 1 = M1 99 1 by rw [hM48]; exact mu_ne _ _ (by first | decide | omega)).trans q99_1
        have wM48_113_0 : M48 113 0 = M1 113 0 := by rw [hM48]; exact mu_ne _ _ (by first | decide | omega)
        have wM48_113_1 : M48 113 1 = M1 113 1 := by rw [hM48]; exact mu_ne _ _ (by first | decide | omega)
        have xM48_113_2 : M48 113 2 = v47 + 1 := by rw [hM48]; exact mu_at _ _ _ _
        have kqM48 := KPk.cg (f' := M48 104) kp (fun q _ => by rw [hM48, mu_cell _ _ (by decide)]) (Int.le_refl _)
        have k0_M48 : ∀ j : Nat, j < 25 → M48 104 (50 + j) = M 101 j := fun j hj => by rw [hM48, mu_cell _ _ (by decide)]; exact k0_ j hj
        refine g_aload_n (pc' := 66) 2 dX10_goThrough_65 rfl rfl ?_
        refine g_bipush (pc' := 68) (v := 50) dX10_goThrough_66 rfl (by decide) ?_
        refine g_bipush (pc' := 70) (v := 25) dX10_goThrough_68 rfl (by decide) ?_
        refine g_iload_n (pc' := 71) 1 dX10_goThrough_70 rfl rfl ?_
        refine g_imul (pc' := 72) dX10_goThrough_71 rfl ?_
        refine g_iadd (pc' := 73) dX10_goThrough_72 rfl ?_
        refine g_callVv (pc' := 76) (As := [vi (50 + (25 * 2))]) (b := 97) (S := []) dX10_goThrough_73 rfl m_X10_132 w_X10_putBack (c_X10_putBack X M48 (50 + (25 * 2)) ⟨by omega, by omega⟩ ⟨by omega, by omega⟩) rfl ⟨_, _, _, rfl, rfl, rfl⟩ (by decide) (by decide) rfl (Nat.le_of_ble_eq_true rfl) (fun M50 q49 => ?_)
        obtain ⟨fbM50, pbM50⟩ := q49
        have iM50 : IM M50 := IM.parts iM48 fbM50 (fun c z => by omega) (KPk.get kqM48 (j := 2) (by omega) (by decide) pbM50)
        have fM50 : Fr (fun c => c = 97 ∨ c = 101 ∨ c = 104 ∨ c = 105 ∨ c = 113 ∨ c = 114) M M50 := Fr.tr fM48 fbM50 (fun c z => by first | omega | (dsimp only at z ⊢; omega))
        have q97_12_M50 : M50 97 12 = M 97 12 := (congrFun (fbM50 97 (by decide)) 12).trans q97_12_M48
        have q97_37_M50 : M50 97 37 = M 97 37 := (congrFun (fbM50 97 (by decide)) 37).trans q97_37_M48
        have q97_38_M50 : M50 97 38 = M 97 38 := (congrFun (fbM50 97 (by decide)) 38).trans q97_38_M48
        have q97_17_M50 : M50 97 17 = M 97 17 := (congrFun (fbM50 97 (by decide)) 17).trans q97_17_M48
        have q97_33_M50 : M50 97 33 = M 97 33 := (congrFun (fbM50 97 (by decide)) 33).trans q97_33_M48
        have q97_10_M50 : M50 97 10 = M 97 10 := (congrFun (fbM50 97 (by decide)) 10).trans q97_10_M48
        have q97_44_M50 : M50 97 44 = M 97 44 := (congrFun (fbM50 97 (by decide)) 44).trans q97_44_M48
        have q97_1_M50 : M50 97 1 = M 97 1 := (congrFun (fbM50 97 (by decide)) 1).trans q97_1_M48
        have q99_0_M50 : M50 99 0 = M 99 0 := (congrFun (fbM50 99 (by decide)) 0).trans q99_0_M48
        have q99_1_M50 : M50 99 1 = M 99 1 := (congrFun (fbM50 99 (by decide)) 1).trans q99_1_M48
        have wM50_113_0 : M50 113 0 = M48 113 0 := congrFun (fbM50 113 (by decide)) 0
        have wM50_113_1 : M50 113 1 = M48 113 1 := congrFun (fbM50 113 (by decide)) 1
        have wM50_113_2 : M50 113 2 = M48 113 2 := congrFun (fbM50 113 (by decide)) 2
        have xM50_113_2 : M50 113 2 = v47 + 1 := (congrFun (fbM50 113 (by decide)) 2).trans xM48_113_2
        have kqM50 := KPk.cg (f' := M50 104) kqM48 (fun q _ => congrFun (fbM50 104 (by decide)) q) (Int.le_refl _)
        have k0_M50 : ∀ j : Nat, j < 25 → M50 104 (50 + j) = M 101 j := fun j hj => (congrFun (fbM50 104 (by decide)) _).trans (k0_M48 j hj)
        refine g_aload_n (pc' := 77) 2 dX10_goThrough_76 rfl rfl ?_
        refine g_getR (pc' := 80) dX10_goThrough_77 rfl f_X10_64 rfl rfl ?_
        refine g_iload_n (pc' := 81) 1 dX10_goThrough_80 rfl rfl ?_
        refine g_iald (pc' := 82) dX10_goThrough_81 rfl rfl (by decide) (by decide) (fun v51 ev51 rv51 => ?_)
        have ev51 : v51 = M50 113 2 := ev51
        have yv51 : v51 = v47 + 1 := ev51.trans xM50_113_2
        refine g_iload_n (pc' := 83) 0 dX10_goThrough_82 rfl rfl ?_
        refine g_ic_ne (pc' := 86) (tgt := 92) rv51 ⟨by omega, by omega⟩ dX10_goThrough_83 rfl rfl (fun c52 => ?_) (fun c52 => ?_)
        · refine g_aload_n (pc' := 93) 2 dX10_goThrough_92 rfl rfl ?_
          refine g_aload_n (pc' := 94) 2 dX10_goThrough_93 rfl rfl ?_
          refine g_getR (pc' := 97) dX10_goThrough_94 rfl f_X10_64 rfl rfl ?_
          refine g_iload_n (pc' := 98) 1 dX10_goThrough_97 rfl rfl ?_
          refine g_iald (pc' := 99) dX10_goThrough_98 rfl rfl (by decide) (by decide) (fun v53 ev53 rv53 => ?_)
          have ev53 : v53 = M50 113 2 := ev53
          obtain rfl : v51 = v53 := ev51.trans ev53.symm
          refine g_callVi (pc' := 102) (As := [vi v51]) (b := 97) (S := []) dX10_goThrough_99 rfl m_X10_363 w_X10_goes (c_X10_goes X M50 iM50 v51 rv51 (by omega)) rfl ⟨_, _, _, rfl, rfl, rfl⟩ (by decide) (by decide) rfl (Nat.le_of_ble_eq_true rfl) (fun z55 M56 q54 => ?_)
          obtain ⟨iM56, fM560, pM56⟩ := q54
          have fM56 : Fr (fun c => c = 97 ∨ c = 101 ∨ c = 104 ∨ c = 105 ∨ c = 113 ∨ c = 114) M M56 := Fr.tr fM50 fM560 fi_40
          have q97_12_M56 : (M56 97 12 = M 97 12) := (congrFun (fM560 97 (by first | decide | omega | (dsimp only; omega))) 12).trans q97_12_M50
          have q97_37_M56 : (M56 97 37 = M 97 37) := (congrFun (fM560 97 (by first | decide | omega | (dsimp only; omega))) 37).trans q97_37_M50
          have q97_38_M56 : (M56 97 38 = M 97 38) := (congrFun (fM560 97 (by first | decide | omega | (dsimp only; omega))) 38).trans q97_38_M50
          have q97_17_M56 : (M56 97 17 = M 97 17) := (congrFun (fM560 97 (by first | decide | omega | (dsimp only; omega))) 17).trans q97_17_M50
          have q97_33_M56 : (M56 97 33 = M 97 33) := (congrFun (fM560 97 (by first | decide | omega | (dsimp only; omega))) 33).trans q97_33_M50
          have q97_10_M56 : (M56 97 10 = M 97 10) := (congrFun (fM560 97 (by first | decide | omega | (dsimp only; omega))) 10).trans q97_10_M50
          have q97_44_M56 : (M56 97 44 = M 97 44) := (congrFun (fM560 97 (by first | decide | omega | (dsimp only; omega))) 44).trans q97_44_M50
          have q97_1_M56 : (M56 97 1 = M 97 1) := (congrFun (fM560 97 (by first | decide | omega | (dsimp only; omega))) 1).trans q97_1_M50
          have q99_0_M56 : (M56 99 0 = M 99 0) := (congrFun (fM560 99 (by first | decide | omega | (dsimp only; omega))) 0).trans q99_0_M50
          have q99_1_M56 : (M56 99 1 = M 99 1) := (congrFun (fM560 99 (by first | decide | omega | (dsimp only; omega))) 1).trans q99_1_M50
          have wM56_113_0 : M56 113 0 = M50 113 0 := (congrFun (fM560 113 (by first | decide | omega | (dsimp only; omega))) 0)
          have wM56_113_1 : M56 113 1 = M50 113 1 := (congrFun (fM560 113 (by first | decide | omega | (dsimp only; omega))) 1)
          have wM56_113_2 : M56 113 2 = M50 113 2 := (congrFun (fM560 113 (by first | decide | omega | (dsimp only; omega))) 2)
          have xM56_113_2 : M56 113 2 = v47 + 1 := (congrFun (fM560 113 (by first | decide | omega | (dsimp only; omega))) 2).trans xM50_113_2
          have kqM56 := KPk.cg (f' := M56 104) kqM50 pM56.2 (Int.le_refl _)
          have k0_M56 : ∀ j : Nat, j < 25 → M56 104 (50 + j) = M 101 j := fun j hj => (pM56.2 (50 + j) (by omega)).trans (k0_M50 j hj)
          refine g_if_eq (pc' := 105) (tgt := 51) ⟨by omega, by omega⟩ dX10_goThrough_102 rfl rfl (fun c57 => ?_) (fun c57 => ?_)
          · refine g_sub [0, 1, 2, 3] rfl ?_
            exact ih _ (by omega) mo 2 M56 iM56 fM56 q97_12_M56 q97_37_M56 q97_38_M56 q97_17_M56 q97_33_M56 q97_10_M56 q97_44_M56 q97_1_M56 q99_0_M56 q99_1_M56 (KPk.cg kqM56 (fun _ _ => rfl) (by omega)) (by omega) (by omega) (by omega) (mo - M56 113 0) (mo - M56 113 1) (mo - M56 113 2) (by omega) (by omega) (by omega) k0_M56 rfl
          · refine g_iload_n (pc' := 106) 1 dX10_goThrough_105 rfl rfl ?_
            refine g_iload_n (pc' := 107) 3 dX10_goThrough_106 rfl rfl ?_
            refine g_iconst (pc' := 108) dX10_goThrough_107 rfl ?_
            refine g_isub (pc' := 109) dX10_goThrough_108 rfl ?_
            refine g_ic_ne (pc' := 112) (tgt := 127) (by decide) ⟨by omega, by omega⟩ dX10_goThrough_109 rfl rfl (fun c58 => ?_) (fun c58 => ?_)
            · refine g_iinc (pc' := 130) (L' := [(3, vi 3), (2, vi mo), (0, vr X 97), (1, vi n)]) 1 dX10_goThrough_127 rfl rfl (by decide) rfl ?_
              refine g_aload_n (pc' := 131) 2 dX10_goThrough_130 rfl rfl ?_
              refine g_bipush (pc' := 133) (v := 50) dX10_goThrough_131 rfl (by decide) ?_
              refine g_bipush (pc' := 135) (v := 25) dX10_goThrough_133 rfl (by decide) ?_
              refine g_iload_n (pc' := 136) 0 dX10_goThrough_135 rfl rfl ?_
              refine g_imul (pc' := 137) dX10_goThrough_136 rfl ?_
              refine g_iadd (pc' := 138) dX10_goThrough_137 rfl ?_
              refine g_callVv (pc' := 141) (As := [vi (50 + (25 * 3))]) (b := 97) (S := []) dX10_goThrough_138 rfl m_X10_123 w_X10_keep (c_X10_keep X M56 (50 + (25 * 3)) ⟨by omega, by omega⟩ ⟨by omega, by omega⟩) rfl ⟨_, _, _, rfl, rfl, rfl⟩ (by decide) (by decide) rfl (Nat.le_of_ble_eq_true rfl) (fun M60 q59 => ?_)
              obtain ⟨fkM60, kpM60, usM60⟩ := q59
              have iM60 : IM M60 := IM.fr iM56 fkM60 (fun c z => by omega)
              have fM60 : Fr (fun c => c = 97 ∨ c = 101 ∨ c = 104 ∨ c = 105 ∨ c = 113 ∨ c = 114) M M60 := Fr.tr fM56 fkM60 (fun c z => by first | omega | (dsimp only at z ⊢; omega))
              have q97_12_M60 : M60 97 12 = M 97 12 := (congrFun (fkM60 97 (by decide)) 12).trans q97_12_M56
              have q97_37_M60 : M60 97 37 = M 97 37 := (congrFun (fkM60 97 (by decide)) 37).trans q97_37_M56
              have q97_38_M60 : M60 97 38 = M 97 38 := (congrFun (fkM60 97 (by decide)) 38).trans q97_38_M56
              have q97_17_M60 : M60 97 17 = M 97 17 := (congrFun (fkM60 97 (by decide)) 17).trans q97_17_M56
              have q97_33_M60 : M60 97 33 = M 97 33 := (congrFun (fkM60 97 (by decide)) 33).trans q97_33_M56
              have q97_10_M60 : M60 97 10 = M 97 10 := (congrFun (fkM60 97 (by decide)) 10).trans q97_10_M56
              have q97_44_M60 : M60 97 44 = M 97 44 := (congrFun (fkM60 97 (by decide)) 44).trans q97_44_M56
              have q97_1_M60 : M60 97 1 = M 97 1 := (congrFun (fkM60 97 (by decide)) 1).trans q97_1_M56
              have q99_0_M60 : M60 99 0 = M 99 0 := (congrFun (fkM60 99 (by decide)) 0).trans q99_0_M56
              have q99_1_M60 : M60 99 1 = M 99 1 := (congrFun (fkM60 99 (by decide)) 1).trans q99_1_M56
              have wM60_113_0 : M60 113 0 = M56 113 0 := congrFun (fkM60 113 (by decide)) 0
              have wM60_113_1 : M60 113 1 = M56 113 1 := congrFun (fkM60 113 (by decide)) 1
              have wM60_113_2 : M60 113 2 = M56 113 2 := congrFun (fkM60 113 (by decide)) 2
              have xM60_113_2 : M60 113 2 = v47 + 1 := (congrFun (fkM60 113 (by decide)) 2).trans xM56_113_2
              have kqM60 : KPk (M60 104) 3 := KPk.push kqM56 kpM60 usM60 (by omega) (show (3 : Int) = 2 + 1 by decide) (by decide) iM56.2.1
              have k0_M60 : ∀ j : Nat, j < 25 → M60 104 (50 + j) = M 101 j := fun j hj => (usM60 (50 + j) (by omega)).trans (k0_M56 j hj)
              refine g_aload_n (pc' := 142) 2 dX10_goThrough_141 rfl rfl ?_
              refine g_getR (pc' := 145) dX10_goThrough_142 rfl f_X10_64 rfl rfl ?_
              refine g_iload_n (pc' := 146) 0 dX10_goThrough_145 rfl rfl ?_
              refine g_iconst (pc' := 147) dX10_goThrough_146 rfl ?_
              refine g_iast (pc' := 148) dX10_goThrough_147 rfl rfl (by omega) (by omega) (by decide) (fun M61 hM61 => ?_)
              have hM61 : M61 = mu M60 113 3 (-1) := hM61
              have iM61 : IM M61 := IM.wr iM60 hM61 (by unfold okv; first | decide | omega)
              have fM61 : Fr (fun c => c = 97 ∨ c = 101 ∨ c = 104 ∨ c = 105 ∨ c = 113 ∨ c = 114) M M61 := Fr.wr fM60 hM61 (by first | decide | omega | (dsimp only; omega))
              have q97_12_M61 : (M61 97 12 = M 97 12) := (show M61 97 12 = M60 97 12 by rw [hM61]; exact mu_ne _ _ (by first | decide | omega)).trans q97_12_M60
              have q97_37_M61 : (M61 97 37 = M 97 37) := (show M61 97 37 = M60 97 37 by rw [hM61]; exact mu_ne _ _ (by first | decide | omega)).trans q97_37_M60
              have q97_38_M61 : (M61 97 38 = M 97 38) := (show M61 97 38 = M60 97 38 by rw [hM61]; exact mu_ne _ _ (by first | decide | omega)).trans q97_38_M60
              have q97_17_M61 : (M61 97 17 = M 97 17) := (show M61 97 17 = M60 97 17 by rw [hM61]; exact mu_ne _ _ (by first | decide | omega)).trans q97_17_M60
              have q97_33_M61 : (M61 97 33 = M 97 33) := (show M61 97 33 = M60 97 33 by rw [hM61]; exact mu_ne _ _ (by first | decide | omega)).trans q97_33_M60
              have q97_10_M61 : (M61 97 10 = M 97 10) := (show M61 97 10 = M60 97 10 by rw [hM61]; exact mu_ne _ _ (by first | decide | omega)).trans q97_10_M60
              have q97_44_M61 : (M61 97 44 = M 97 44) := (show M61 97 44 = M60 97 44 by rw [hM61]; exact mu_ne _ _ (by first | decide | omega)).trans q97_44_M60
              have q97_1_M61 : (M61 97 1 = M 97 1) := (show M61 97 1 = M60 97 1 by rw [hM61]; exact mu_ne _ _ (by first | decide | omega)).trans q97_1_M60
              have q99_0_M61 : (M61 99 0 = M 99 0) := (show M61 99 0 = M60 99 0 by rw [hM61]; exact mu_ne _ _ (by first | decide | omega)).trans q99_0_M60
              have q99_1_M61 : (M61 99 1 = M 99 1) := (show M61 99 1 = M60 99 1 by rw [hM61]; exact mu_ne _ _ (by first | decide | omega)).trans q99_1_M60
              have wM61_113_0 : M61 113 0 = M60 113 0 := by rw [hM61]; exact mu_ne _ _ (by first | decide | omega)
              have wM61_113_1 : M61 113 1 = M60 113 1 := by rw [hM61]; exact mu_ne _ _ (by first | decide | omega)
              have wM61_113_2 : M61 113 2 = M60 113 2 := by rw [hM61]; exact mu_ne _ _ (by first | decide | omega)
              have xM61_113_2 : M61 113 2 = v47 + 1 := (show M61 113 2 = M60 113 2 by rw [hM61]; exact mu_ne _ _ (by first | decide | omega)).trans xM60_113_2
              have xM61_113_3 : M61 113 3 = (-1) := by rw [hM61]; exact mu_at _ _ _ _
              have kqM61 := KPk.cg (f' := M61 104) kqM60 (fun q _ => by rw [hM61, mu_cell _ _ (by decide)]) (Int.le_refl _)
              have k0_M61 : ∀ j : Nat, j < 25 → M61 104 (50 + j) = M 101 j := fun j hj => by rw [hM61, mu_cell _ _ (by decide)]; exact k0_M60 j hj
              refine g_goto (tgt := 51) dX10_goThrough_148 rfl ?_
              refine g_sub [1, 0, 2, 3] rfl ?_
              exact ih _ (by omega) mo 3 M61 iM61 fM61 q97_12_M61 q97_37_M61 q97_38_M61 q97_17_M61 q97_33_M61 q97_10_M61 q97_44_M61 q97_1_M61 q99_0_M61 q99_1_M61 (KPk.cg kqM61 (fun _ _ => rfl) (by omega)) (by omega) (by omega) (by omega) (mo - M61 113 0) (mo - M61 113 1) (mo - M61 113 2) (by omega) (by omega) (by omega) k0_M61 rfl
            · refine g_aload_n (pc' := 113) 2 dX10_goThrough_112 rfl rfl ?_
              refine g_callVip (pc' := 116) (As := []) (b := 97) (S := []) dX10_goThrough_113 rfl m_X10_360 w_X10_isWish (c_X10_isWish X M56 iM56 (by omega)) rfl ⟨_, _, _, rfl, rfl, rfl⟩ (by decide) (by decide) rfl (Nat.le_of_ble_eq_true rfl) (fun z63 q62 => ?_)
              refine g_if_eq (pc' := 119) (tgt := 51) ⟨by omega, by omega⟩ dX10_goThrough_116 rfl rfl (fun c64 => ?_) (fun c64 => ?_)
              · refine g_sub [0, 1, 2, 3] rfl ?_
                exact ih _ (by omega) mo 2 M56 iM56 fM56 q97_12_M56 q97_37_M56 q97_38_M56 q97_17_M56 q97_33_M56 q97_10_M56 q97_44_M56 q97_1_M56 q99_0_M56 q99_1_M56 (KPk.cg kqM56 (fun _ _ => rfl) (by omega)) (by omega) (by omega) (by omega) (mo - M56 113 0) (mo - M56 113 1) (mo - M56 113 2) (by omega) (by omega) (by omega) k0_M56 rfl
              · refine g_aload_n (pc' := 120) 2 dX10_goThrough_119 rfl rfl ?_
                refine g_iload_n (pc' := 121) 3 dX10_goThrough_120 rfl rfl ?_
                refine g_callVv (pc' := 124) (As := [vi n]) (b := 97) (S := []) dX10_goThrough_121 rfl m_X10_366 w_X10_keepFirst (c_X10_keepFirst X M56 iM56 n hn (by omega)) rfl ⟨_, _, _, rfl, rfl, rfl⟩ (by decide) (by decide) rfl (Nat.le_of_ble_eq_true rfl) (fun M66 q65 => ?_)
                obtain ⟨iM66, fM660, eM66_97_12, eM66_97_37, eM66_97_38, eM66_97_17, eM66_97_33, eM66_97_10, eM66_97_44, eM66_97_1⟩ := q65
                have fM66 : Fr (fun c => c = 97 ∨ c = 101 ∨ c = 104 ∨ c = 105 ∨ c = 113 ∨ c = 114) M M66 := Fr.tr fM56 fM660 fi_41
                have q97_12_M66 : (M66 97 12 = M 97 12) := eM66_97_12.trans q97_12_M56
                have q97_37_M66 : (M66 97 37 = M 97 37) := eM66_97_37.trans q97_37_M56
                have q97_38_M66 : (M66 97 38 = M 97 38) := eM66_97_38.trans q97_38_M56
                have q97_17_M66 : (M66 97 17 = M 97 17) := eM66_97_17.trans q97_17_M56
                have q97_33_M66 : (M66 97 33 = M 97 33) := eM66_97_33.trans q97_33_M56
                have q97_10_M66 : (M66 97 10 = M 97 10) := eM66_97_10.trans q97_10_M56
                have q97_44_M66 : (M66 97 44 = M 97 44) := eM66_97_44.trans q97_44_M56
                have q97_1_M66 : (M66 97 1 = M 97 1) := eM66_97_1.trans q97_1_M56
                have q99_0_M66 : (M66 99 0 = M 99 0) := (congrFun (fM660 99 (by first | decide | omega | (dsimp only; omega))) 0).trans q99_0_M56
                have q99_1_M66 : (M66 99 1 = M 99 1) := (congrFun (fM660 99 (by first | decide | omega | (dsimp only; omega))) 1).trans q99_1_M56
                have wM66_113_0 : M66 113 0 = M56 113 0 := (congrFun (fM660 113 (by first | decide | omega | (dsimp only; omega))) 0)
                have wM66_113_1 : M66 113 1 = M56 113 1 := (congrFun (fM660 113 (by first | decide | omega | (dsimp only; omega))) 1)
                have wM66_113_2 : M66 113 2 = M56 113 2 := (congrFun (fM660 113 (by first | decide | omega | (dsimp only; omega))) 2)
                have xM66_113_2 : M66 113 2 = v47 + 1 := (congrFun (fM660 113 (by first | decide | omega | (dsimp only; omega))) 2).trans xM56_113_2
                have kqM66 := KPk.cg (f' := M66 104) kqM56 (fun q _ => congrFun (fM660 104 (by decide)) q) (Int.le_refl _)
                have k0_M66 : ∀ j : Nat, j < 25 → M66 104 (50 + j) = M 101 j := fun j hj => (congrFun (fM660 104 (by decide)) _).trans (k0_M56 j hj)
                refine g_goto (tgt := 51) dX10_goThrough_124 rfl ?_
                refine g_sub [0, 1, 2, 3] rfl ?_
                exact ih _ (by omega) mo 2 M66 iM66 fM66 q97_12_M66 q97_37_M66 q97_38_M66 q97_17_M66 q97_33_M66 q97_10_M66 q97_44_M66 q97_1_M66 q99_0_M66 q99_1_M66 (KPk.cg kqM66 (fun _ _ => rfl) (by omega)) (by omega) (by omega) (by omega) (mo - M66 113 0) (mo - M66 113 1) (mo - M66 113 2) (by omega) (by omega) (by omega) k0_M66 rfl
        · refine g_iinc (pc' := 89) (L' := [(3, vi 1), (2, vi mo), (0, vr X 97), (1, vi n)]) 1 dX10_goThrough_86 rfl rfl (by decide) rfl ?_
          refine g_goto (tgt := 51) dX10_goThrough_89 rfl ?_
          refine g_sub [1, 0, 2, 3] rfl ?_
          exact ih _ (by omega) mo 1 M50 iM50 fM50 q97_12_M50 q97_37_M50 q97_38_M50 q97_17_M50 q97_33_M50 q97_10_M50 q97_44_M50 q97_1_M50 q99_0_M50 q99_1_M50 (KPk.cg kqM50 (fun _ _ => rfl) (by omega)) (by omega) (by omega) (by omega) (mo - M50 113 0) (mo - M50 113 1) 0 (by omega) (by omega) (by omega) k0_M50 rfl
set_option maxHeartbeats 4000000 in
set_option maxRecDepth 100000 in
theorem c_X10_goThrough_x (X : Cx) (M : Mm) (hi : IM M) (n : Int) (hn : inI n) (hn3 : 0 ≤ n ∧ n ≤ 3) (hw : M 97 37 = -1 ∨ ((0 ≤ M 97 37 ∧ M 97 37 ≤ 5) ∧ 0 ≤ M 97 38 ∧ M 97 38 ≤ 3)) : Con X 5 yX10_goThrough cX10_goThrough 4 none [vr X 97, vi n] M (Qv (fun M1 => IM M1 ∧ Fr (fun c => c = 97 ∨ c = 101 ∨ c = 104 ∨ c = 105 ∨ c = 113 ∨ c = 114) M M1 ∧ M1 97 12 = M 97 12 ∧ M1 97 37 = M 97 37 ∧ M1 97 38 = M 97 38 ∧ M1 97 17 = M 97 17 ∧ M1 97 33 = M 97 33 ∧ M1 97 10 = M 97 10 ∧ M1 97 44 = M 97 44 ∧ M1 97 1 = M 97 1 ∧ (E25 (M 101) (M1 101)))) := by
  refine Con.ofG rfl (Nat.le_of_ble_eq_true rfl) ?_
  show G X 5 RX10 cX10_goThrough 4 none (Qv (fun M1 => IM M1 ∧ Fr (fun c => c = 97 ∨ c = 101 ∨ c = 104 ∨ c = 105 ∨ c = 113 ∨ c = 114) M M1 ∧ M1 97 12 = M 97 12 ∧ M1 97 37 = M 97 37 ∧ M1 97 38 = M 97 38 ∧ M1 97 17 = M 97 17 ∧ M1 97 33 = M 97 33 ∧ M1 97 10 = M 97 10 ∧ M1 97 44 = M 97 44 ∧ M1 97 1 = M 97 1 ∧ (E25 (M 101) (M1 101)))) 0 [(0, vr X 97), (1, vi n)] [] M
  have p1 := hi.1.2.1
  have p0 := hi.1.1
  refine g_aload_n (pc' := 1) 0 dX10_goThrough_0 rfl rfl ?_
  refine g_iconst (pc' := 2) dX10_goThrough_1 rfl ?_
  refine g_putI (pc' := 5) dX10_goThrough_2 rfl p_X10_357 rfl rfl (by decide) (fun M1 hM1 => ?_)
  have iM1 : IM M1 := IM.wr hi hM1 (by unfold okv; first | decide | omega)
  have fM1 : Fr (fun c => c = 97 ∨ c = 101 ∨ c = 104 ∨ c = 105 ∨ c = 113 ∨ c = 114) M M1 := Fr.wr Fr.rf hM1 (by first | decide | omega | (dsimp only; omega))
  have q97_12_M1 : (M1 97 12 = M 97 12) := (show M1 97 12 = M 97 12 by rw [hM1]; exact mu_ne _ _ (by first | decide | omega))
  have q97_37_M1 : (M1 97 37 = M 97 37) := (show M1 97 37 = M 97 37 by rw [hM1]; exact mu_ne _ _ (by first | decide | omega))
  have q97_38_M1 : (M1 97 38 = M 97 38) := (show M1 97 38 = M 97 38 by rw [hM1]; exact mu_ne _ _ (by first | decide | omega))
  have q97_17_M1 : (M1 97 17 = M 97 17) := (show M1 97 17 = M 97 17 by rw [hM1]; exact mu_ne _ _ (by first | decide | omega))
  have q97_33_M1 : (M1 97 33 = M 97 33) := (show M1 97 33 = M 97 33 by rw [hM1]; exact mu_ne _ _ (by first | decide | omega))
  have q97_10_M1 : (M1 97 10 = M 97 10) := (show M1 97 10 = M 97 10 by rw [hM1]; exact mu_ne _ _ (by first | decide | omega))
  have q97_44_M1 : (M1 97 44 = M 97 44) := (show M1 97 44 = M 97 44 by rw [hM1]; exact mu_ne _ _ (by first | decide | omega))
  have q97_1_M1 : (M1 97 1 = M 97 1) := (show M1 97 1 = M 97 1 by rw [hM1]; exact mu_ne _ _ (by first | decide | omega))
  have q99_0_M1 : (M1 99 0 = M 99 0) := (show M1 99 0 = M 99 0 by rw [hM1]; exact mu_ne _ _ (by first | decide | omega))
  have q99_1_M1 : (M1 99 1 = M 99 1) := (show M1 99 1 = M 99 1 by rw [hM1]; exact mu_ne _ _ (by first | decide | omega))
  have wM1_113_0 : M1 113 0 = M 113 0 := by rw [hM1]; exact mu_ne _ _ (by first | decide | omega)
  have wM1_113_1 : M1 113 1 = M 113 1 := by rw [hM1]; exact mu_ne _ _ (by first | decide | omega)
  have wM1_113_2 : M1 113 2 = M 113 2 := by rw [hM1]; exact mu_ne _ _ (by first | decide | omega)
  have xM1_97_36 : M1 97 36 = 0 := by rw [hM1]; exact mu_at _ _ _ _
  have c101M1 : M1 101 = M 101 := (show M1 101 = M 101 by rw [hM1]; exact mu_cell _ _ (by decide))
  refine g_bipush (pc' := 7) (v := 9) dX10_goThrough_5 rfl (by decide) ?_
  refine g_aload_n (pc' := 8) 0 dX10_goThrough_7 rfl rfl ?_
  refine g_getR (pc' := 11) dX10_goThrough_8 rfl f_X10_13 rfl rfl ?_
  refine g_iconst (pc' := 12) dX10_goThrough_11 rfl ?_
  refine g_iald (pc' := 13) dX10_goThrough_12 rfl rfl (by decide) (by decide) (fun v2 ev2 rv2 => ?_)
  have ev2 : v2 = M1 99 1 := ev2
  have bv2 : 0 ≤ v2 ∧ v2 ≤ 3 := by rw [ev2]; exact iM1.1.2.1
  have av2 : v2 = M 99 1 := ev2.trans q99_1_M1
  refine g_imul (pc' := 14) dX10_goThrough_13 rfl ?_
  obtain ⟨x3, ex3⟩ : ∃ z : Int, z = 9 * v2 := ⟨_, rfl⟩
  rw [← ex3]
  refine g_istore_n (pc' := 15) (i := 2) (L' := [(2, vi x3), (0, vr X 97), (1, vi n)]) dX10_goThrough_14 rfl rfl (by decide) rfl ?_
  refine g_aload_n (pc' := 16) 1 dX10_goThrough_15 rfl rfl ?_
  refine g_bipush (pc' := 18) (v := 50) dX10_goThrough_16 rfl (by decide) ?_
  refine g_callVv (pc' := 21) (As := [vi 50]) (b := 97) (S := []) dX10_goThrough_18 rfl m_X10_123 w_X10_keep (c_X10_keep X M1 50 (by decide) ⟨by omega, by omega⟩) rfl ⟨_, _, _, rfl, rfl, rfl⟩ (by decide) (by decide) rfl (Nat.le_of_ble_eq_true rfl) (fun M5 q4 => ?_)
  obtain ⟨fkM5, kpM5, usM5⟩ := q4
  have iM5 : IM M5 := IM.fr iM1 fkM5 (fun c z => by omega)
  have fM5 : Fr (fun c => c = 97 ∨ c = 101 ∨ c = 104 ∨ c = 105 ∨ c = 113 ∨ c = 114) M M5 := Fr.tr fM1 fkM5 (fun c z => by first | omega | (dsimp only at z ⊢; omega))
  have q97_12_M5 : M5 97 12 = M 97 12 := (congrFun (fkM5 97 (by decide)) 12).trans q97_12_M1
  have q97_37_M5 : M5 97 37 = M 97 37 := (congrFun (fkM5 97 (by decide)) 37).trans q97_37_M1
  have q97_38_M5 : M5 97 38 = M 97 38 := (congrFun (fkM5 97 (by decide)) 38).trans q97_38_M1
  have q97_17_M5 : M5 97 17 = M 97 17 := (congrFun (fkM5 97 (by decide)) 17).trans q97_17_M1
  have q97_33_M5 : M5 97 33 = M 97 33 := (congrFun (fkM5 97 (by decide)) 33).trans q97_33_M1
  have q97_10_M5 : M5 97 10 = M 97 10 := (congrFun (fkM5 97 (by decide)) 10).trans q97_10_M1
  have q97_44_M5 : M5 97 44 = M 97 44 := (congrFun (fkM5 97 (by decide)) 44).trans q97_44_M1
  have q97_1_M5 : M5 97 1 = M 97 1 := (congrFun (fkM5 97 (by decide)) 1).trans q97_1_M1
  have q99_0_M5 : M5 99 0 = M 99 0 := (congrFun (fkM5 99 (by decide)) 0).trans q99_0_M1
  have q99_1_M5 : M5 99 1 = M 99 1 := (congrFun (fkM5 99 (by decide)) 1).trans q99_1_M1
  have wM5_113_0 : M5 113 0 = M1 113 0 := congrFun (fkM5 113 (by decide)) 0
  have wM5_113_1 : M5 113 1 = M1 113 1 := congrFun (fkM5 113 (by decide)) 1
  have wM5_113_2 : M5 113 2 = M1 113 2 := congrFun (fkM5 113 (by decide)) 2
  have xM5_97_36 : M5 97 36 = 0 := (congrFun (fkM5 97 (by decide)) 36).trans xM1_97_36
  have kqM5 : KPk (M5 104) 0 := KPk.one kpM5 iM1.2.1
  have c101M5 : M5 101 = M 101 := (fkM5 101 (by decide)).trans c101M1
  have k0_M5 : ∀ j : Nat, j < 25 → M5 104 (50 + j) = M 101 j := fun j hj => (kpM5 j hj).trans (congrFun c101M1 j)
  refine g_iconst (pc' := 22) dX10_goThrough_21 rfl ?_
  refine g_istore_n (pc' := 23) (i := 3) (L' := [(3, vi 0), (2, vi x3), (0, vr X 97), (1, vi n)]) dX10_goThrough_22 rfl rfl (by decide) rfl ?_
  refine g_aload_n (pc' := 24) 2 dX10_goThrough_23 rfl rfl ?_
  refine g_getR (pc' := 27) dX10_goThrough_24 rfl f_X10_64 rfl rfl ?_
  refine g_iconst (pc' := 28) dX10_goThrough_27 rfl ?_
  refine g_iconst (pc' := 29) dX10_goThrough_28 rfl ?_
  refine g_iast (pc' := 30) dX10_goThrough_29 rfl rfl (by decide) (by decide) (by decide) (fun M6 hM6 => ?_)
  have hM6 : M6 = mu M5 113 0 (-1) := hM6
  have iM6 : IM M6 := IM.wr iM5 hM6 (by unfold okv; first | decide | omega)
  have fM6 : Fr (fun c => c = 97 ∨ c = 101 ∨ c = 104 ∨ c = 105 ∨ c = 113 ∨ c = 114) M M6 := Fr.wr fM5 hM6 (by first | decide | omega | (dsimp only; omega))
  have q97_12_M6 : (M6 97 12 = M 97 12) := (show M6 97 12 = M5 97 12 by rw [hM6]; exact mu_ne _ _ (by first | decide | omega)).trans q97_12_M5
  have q97_37_M6 : (M6 97 37 = M 97 37) := (show M6 97 37 = M5 97 37 by rw [hM6]; exact mu_ne _ _ (by first | decide | omega)).trans q97_37_M5
  have q97_38_M6 : (M6 97 38 = M 97 38) := (show M6 97 38 = M5 97 38 by rw [hM6]; exact mu_ne _ _ (by first | decide | omega)).trans q97_38_M5
  have q97_17_M6 : (M6 97 17 = M 97 17) := (show M6 97 17 = M5 97 17 by rw [hM6]; exact mu_ne _ _ (by first | decide | omega)).trans q97_17_M5
  have q97_33_M6 : (M6 97 33 = M 97 33) := (show M6 97 33 = M5 97 33 by rw [hM6]; exact mu_ne _ _ (by first | decide | omega)).trans q97_33_M5
  have q97_10_M6 : (M6 97 10 = M 97 10) := (show M6 97 10 = M5 97 10 by rw [hM6]; exact mu_ne _ _ (by first | decide | omega)).trans q97_10_M5
  have q97_44_M6 : (M6 97 44 = M 97 44) := (show M6 97 44 = M5 97 44 by rw [hM6]; exact mu_ne _ _ (by first | decide | omega)).trans q97_44_M5
  have q97_1_M6 : (M6 97 1 = M 97 1) := (show M6 97 1 = M5 97 1 by rw [hM6]; exact mu_ne _ _ (by first | decide | omega)).trans q97_1_M5
  have q99_0_M6 : (M6 99 0 = M 99 0) := (show M6 99 0 = M5 99 0 by rw [hM6]; exact mu_ne _ _ (by first | decide | omega)).trans q99_0_M5
  have q99_1_M6 : (M6 99 1 = M 99 1) := (show M6 99 1 = M5 99 1 by rw [hM6]; exact mu_ne _ _ (by first | decide | omega)).trans q99_1_M5
  have wM6_113_1 : M6 113 1 = M5 113 1 := by rw [hM6]; exact mu_ne _ _ (by first | decide | omega)
  have wM6_113_2 : M6 113 2 = M5 113 2 := by rw [hM6]; exact mu_ne _ _ (by first | decide | omega)
  have xM6_97_36 : M6 97 36 = 0 := (show M6 97 36 = M5 97 36 by rw [hM6]; exact mu_ne _ _ (by first | decide | omega)).trans xM5_97_36
  have xM6_113_0 : M6 113 0 = (-1) := by rw [hM6]; exact mu_at _ _ _ _
  have kqM6 := KPk.cg (f' := M6 104) kqM5 (fun q _ => by rw [hM6, mu_cell _ _ (by decide)]) (Int.le_refl _)
  have k0_M6 : ∀ j : Nat, j < 25 → M6 104 (50 + j) = M 101 j := fun j hj => by rw [hM6, mu_cell _ _ (by decide)]; exact k0_M5 j hj
  have c101M6 : M6 101 = M 101 := (show M6 101 = M5 101 by rw [hM6]; exact mu_cell _ _ (by decide)).trans c101M5
  refine g_iload_n (pc' := 31) 3 dX10_goThrough_30 rfl rfl ?_
  refine g_if_ne (pc' := 34) (tgt := 51) hn dX10_goThrough_31 rfl rfl (fun c7 => ?_) (fun c7 => ?_)
  · refine g_sub [1, 0, 2, 3] rfl ?_
    exact l_X10_goThrough_x_51 X M hi n hn hn3 hw _ x3 0 M6 iM6 fM6 q97_12_M6 q97_37_M6 q97_38_M6 q97_17_M6 q97_33_M6 q97_10_M6 q97_44_M6 q97_1_M6 q99_0_M6 q99_1_M6 (KPk.cg kqM6 (fun _ _ => rfl) (by omega)) (by omega) (by omega) (by omega) (x3 - M6 113 0) 0 0 (by omega) (by omega) (by omega) k0_M6 rfl
  · refine g_aload_n (pc' := 35) 2 dX10_goThrough_34 rfl rfl ?_
    refine g_aload_n (pc' := 36) 2 dX10_goThrough_35 rfl rfl ?_
    refine g_callVip (pc' := 39) (As := []) (b := 97) (S := [vr X 97]) dX10_goThrough_36 rfl m_X10_360 w_X10_isWish (c_X10_isWish X M6 iM6 (by omega)) rfl ⟨_, _, _, rfl, rfl, rfl⟩ (by decide) (by decide) rfl (Nat.le_of_ble_eq_true rfl) (fun z9 q8 => ?_)
    refine g_if_eq (pc' := 42) (tgt := 46) ⟨by omega, by omega⟩ dX10_goThrough_39 rfl rfl (fun c10 => ?_) (fun c10 => ?_)
    · refine g_iconst (pc' := 47) dX10_goThrough_46 rfl ?_
      refine g_putI (pc' := 50) dX10_goThrough_47 rfl p_X10_357 rfl rfl (by decide) (fun M11 hM11 => ?_)
      have iM11 : IM M11 := IM.wr iM6 hM11 (by unfold okv; first | decide | omega)
      have fM11 : Fr (fun c => c = 97 ∨ c = 101 ∨ c = 104 ∨ c = 105 ∨ c = 113 ∨ c = 114) M M11 := Fr.wr fM6 hM11 (by first | decide | omega | (dsimp only; omega))
      have q97_12_M11 : (M11 97 12 = M 97 12) := (show M11 97 12 = M6 97 12 by rw [hM11]; exact mu_ne _ _ (by first | decide | omega)).trans q97_12_M6
      have q97_37_M11 : (M11 97 37 = M 97 37) := (show M11 97 37 = M6 97 37 by rw [hM11]; exact mu_ne _ _ (by first | decide | omega)).trans q97_37_M6
      have q97_38_M11 : (M11 97 38 = M 97 38) := (show M11 97 38 = M6 97 38 by rw [hM11]; exact mu_ne _ _ (by first | decide | omega)).trans q97_38_M6
      have q97_17_M11 : (M11 97 17 = M 97 17) := (show M11 97 17 = M6 97 17 by rw [hM11]; exact mu_ne _ _ (by first | decide | omega)).trans q97_17_M6
      have q97_33_M11 : (M11 97 33 = M 97 33) := (show M11 97 33 = M6 97 33 by rw [hM11]; exact mu_ne _ _ (by first | decide | omega)).trans q97_33_M6
      have q97_10_M11 : (M11 97 10 = M 97 10) := (show M11 97 10 = M6 97 10 by rw [hM11]; exact mu_ne _ _ (by first | decide | omega)).trans q97_10_M6
      have q97_44_M11 : (M11 97 44 = M 97 44) := (show M11 97 44 = M6 97 44 by rw [hM11]; exact mu_ne _ _ (by first | decide | omega)).trans q97_44_M6
      have q97_1_M11 : (M11 97 1 = M 97 1) := (show M11 97 1 = M6 97 1 by rw [hM11]; exact mu_ne _ _ (by first | decide | omega)).trans q97_1_M6
      have q99_0_M11 : (M11 99 0 = M 99 0) := (show M11 99 0 = M6 99 0 by rw [hM11]; exact mu_ne _ _ (by first | decide | omega)).trans q99_0_M6
      have q99_1_M11 : (M11 99 1 = M 99 1) := (show M11 99 1 = M6 99 1 by rw [hM11]; exact mu_ne _ _ (by first | decide | omega)).trans q99_1_M6
      have wM11_113_0 : M11 113 0 = M6 113 0 := by rw [hM11]; exact mu_ne _ _ (by first | decide | omega)
      have wM11_113_1 : M11 113 1 = M6 113 1 := by rw [hM11]; exact mu_ne _ _ (by first | decide | omega)
      have wM11_113_2 : M11 113 2 = M6 113 2 := by rw [hM11]; exact mu_ne _ _ (by first | decide | omega)
      have xM11_113_0 : M11 113 0 = (-1) := (show M11 113 0 = M6 113 0 by rw [hM11]; exact mu_ne _ _ (by first | decide | omega)).trans xM6_113_0
      have xM11_97_36 : M11 97 36 = 0 := by rw [hM11]; exact mu_at _ _ _ _
      have kqM11 := KPk.cg (f' := M11 104) kqM6 (fun q _ => by rw [hM11, mu_cell _ _ (by decide)]) (Int.le_refl _)
      have k0_M11 : ∀ j : Nat, j < 25 → M11 104 (50 + j) = M 101 j := fun j hj => by rw [hM11, mu_cell _ _ (by decide)]; exact k0_M6 j hj
      have c101M11 : M11 101 = M 101 := (show M11 101 = M6 101 by rw [hM11]; exact mu_cell _ _ (by decide)).trans c101M6
      refine g_vreturn dX10_goThrough_50 ?_
      exact ⟨iM11, fM11, q97_12_M11, q97_37_M11, q97_38_M11, q97_17_M11, q97_33_M11, q97_10_M11, q97_44_M11, q97_1_M11, (fun j hj => congrFun c101M11 j)⟩
    · refine g_iconst (pc' := 43) dX10_goThrough_42 rfl ?_
      refine g_goto (tgt := 47) dX10_goThrough_43 rfl ?_
      refine g_putI (pc' := 50) dX10_goThrough_47 rfl p_X10_357 rfl rfl (by decide) (fun M12 hM12 => ?_)
      have iM12 : IM M12 := IM.wr iM6 hM12 (by unfold okv; first | decide | omega)
      have fM12 : Fr (fun c => c = 97 ∨ c = 101 ∨ c = 104 ∨ c = 105 ∨ c = 113 ∨ c = 114) M M12 := Fr.wr fM6 hM12 (by first | decide | omega | (dsimp only; omega))
      have q97_12_M12 : (M12 97 12 = M 97 12) := (show M12 97 12 = M6 97 12 by rw [hM12]; exact mu_ne _ _ (by first | decide | omega)).trans q97_12_M6
      have q97_37_M12 : (M12 97 37 = M 97 37) := (show M12 97 37 = M6 97 37 by rw [hM12]; exact mu_ne _ _ (by first | decide | omega)).trans q97_37_M6
      have q97_38_M12 : (M12 97 38 = M 97 38) := (show M12 97 38 = M6 97 38 by rw [hM12]; exact mu_ne _ _ (by first | decide | omega)).trans q97_38_M6
      have q97_17_M12 : (M12 97 17 = M 97 17) := (show M12 97 17 = M6 97 17 by rw [hM12]; exact mu_ne _ _ (by first | decide | omega)).trans q97_17_M6
      have q97_33_M12 : (M12 97 33 = M 97 33) := (show M12 97 33 = M6 97 33 by rw [hM12]; exact mu_ne _ _ (by first | decide | omega)).trans q97_33_M6
      have q97_10_M12 : (M12 97 10 = M 97 10) := (show M12 97 10 = M6 97 10 by rw [hM12]; exact mu_ne _ _ (by first | decide | omega)).trans q97_10_M6
      have q97_44_M12 : (M12 97 44 = M 97 44) := (show M12 97 44 = M6 97 44 by rw [hM12]; exact mu_ne _ _ (by first | decide | omega)).trans q97_44_M6
      have q97_1_M12 : (M12 97 1 = M 97 1) := (show M12 97 1 = M6 97 1 by rw [hM12]; exact mu_ne _ _ (by first | decide | omega)).trans q97_1_M6
      have q99_0_M12 : (M12 99 0 = M 99 0) := (show M12 99 0 = M6 99 0 by rw [hM12]; exact mu_ne _ _ (by first | decide | omega)).trans q99_0_M6
      have q99_1_M12 : (M12 99 1 = M 99 1) := (show M12 99 1 = M6 99 1 by rw [hM12]; exact mu_ne _ _ (by first | decide | omega)).trans q99_1_M6
      have wM12_113_0 : M12 113 0 = M6 113 0 := by rw [hM12]; exact mu_ne _ _ (by first | decide | omega)
      have wM12_113_1 : M12 113 1 = M6 113 1 := by rw [hM12]; exact mu_ne _ _ (by first | decide | omega)
      have wM12_113_2 : M12 113 2 = M6 113 2 := by rw [hM12]; exact mu_ne _ _ (by first | decide | omega)
      have xM12_113_0 : M12 113 0 = (-1) := (show M12 113 0 = M6 113 0 by rw [hM12]; exact mu_ne _ _ (by first | decide | omega)).trans xM6_113_0
      have xM12_97_36 : M12 97 36 = 1 := by rw [hM12]; exact mu_at _ _ _ _
      have kqM12 := KPk.cg (f' := M12 104) kqM6 (fun q _ => by rw [hM12, mu_cell _ _ (by decide)]) (Int.le_refl _)
      have k0_M12 : ∀ j : Nat, j < 25 → M12 104 (50 + j) = M 101 j := fun j hj => by rw [hM12, mu_cell _ _ (by decide)]; exact k0_M6 j hj
      have c101M12 : M12 101 = M 101 := (show M12 101 = M6 101 by rw [hM12]; exact mu_cell _ _ (by decide)).trans c101M6
      refine g_vreturn dX10_goThrough_50 ?_
      exact ⟨iM12, fM12, q97_12_M12, q97_37_M12, q97_38_M12, q97_17_M12, q97_33_M12, q97_10_M12, q97_44_M12, q97_1_M12, (fun j hj => congrFun c101M12 j)⟩
set_option maxHeartbeats 4000000 in
set_option maxRecDepth 100000 in
theorem l_X10_reach_x_89 (X : Cx) (M : Mm) (hi : IM M) (a : Int) (ha : inI a) (b : Int) (hb : inI b) (c : Int) (hc : inI c) (e : Int) (he : inI e) (j : Int) (hj : inI j) (w : Int) (hw : inI w) : ∀ (kk : Nat) (n : Int) (M1 : Mm) (ic1 : IM M1) (fr1 : Fr (fun c => c = 97 ∨ c = 101 ∨ c = 104 ∨ c = 105 ∨ c = 113 ∨ c = 114) M M1) (q99_0 : (M1 99 0 = M 99 0)) (q99_1 : (M1 99 1 = M 99 1)) (q99_2 : (M1 99 2 = M 99 2)) (q99_3 : (M1 99 3 = M 99 3)) (q100_0 : id (M1 100 0 = M 100 0)) (q100_1 : id (M1 100 1 = M 100 1)) (q100_2 : id (M1 100 2 = M 100 2)) (q100_3 : id (M1 100 3 = M 100 3)) (q100_49 : id (M1 100 49 = M 100 49)) (q100_50 : id (M1 100 50 = M 100 50)) (q100_51 : id (M1 100 51 = M 100 51)) (q100_52 : id (M1 100 52 = M 100 52)) (q103_0 : id (M1 103 0 = M 103 0)) (q103_1 : id (M1 103 1 = M 103 1)) (q97_12 : (M1 97 12 = M 97 12)) (q97_17 : (M1 97 17 = M 97 17)) (q97_33 : (M1 97 33 = M 97 33)) (q97_10 : (M1 97 10 = M 97 10)) (q97_44 : (M1 97 44 = M 97 44)) (q97_1 : (M1 97 1 = M 97 1)) (h37 : M1 97 37 = a) (h38 : M1 97 38 = b) (ha5 : 0 ≤ a ∧ a ≤ 5) (hb3 : 0 ≤ b ∧ b ≤ 3) (h0 : 0 ≤ n) (h1 : n ≤ 3) (e25 : E25 (M 101) (M1 101)), (3 - n).toNat = kk → G X 14 RX10 cX10_reach 8 (some .int) (Qi (fun r M1 => IM M1 ∧ Fr (fun c => c = 97 ∨ c = 101 ∨ c = 104 ∨ c = 105 ∨ c = 113 ∨ c = 114) M M1 ∧ M1 99 0 = M 99 0 ∧ M1 99 1 = M 99 1 ∧ M1 99 2 = M 99 2 ∧ M1 99 3 = M 99 3 ∧ M1 100 0 = M 100 0 ∧ M1 100 1 = M 100 1 ∧ M1 100 2 = M 100 2 ∧ M1 100 3 = M 100 3 ∧ M1 100 49 = M 100 49 ∧ M1 100 50 = M 100 50 ∧ M1 100 51 = M 100 51 ∧ M1 100 52 = M 100 52 ∧ M1 103 0 = M 103 0 ∧ M1 103 1 = M 103 1 ∧ M1 97 12 = M 97 12 ∧ M1 97 17 = M 97 17 ∧ M1 97 33 = M 97 33 ∧ M1 97 10 = M 97 10 ∧ M1 97 44 = M 97 44 ∧ M1 97 1 = M 97 1 ∧ (inI r ∧ E25 (M 101) (M1 101)))) 89 [(7, vi n), (0, vr X 97), (5, vi j), (6, vi w)] [] M1 := by
  intro kk
  induction kk using Nat.strongRecOn with
  | ind kk ih =>
    intro n M1 ic1 fr1 q99_0 q99_1 q99_2 q99_3 q100_0 q100_1 q100_2 q100_3 q100_49 q100_50 q100_51 q100_52 q103_0 q103_1 q97_12 q97_17 q97_33 q97_10 q97_44 q97_1 h37 h38 ha5 hb3 h0 h1 e25 hmes
    have p0 := hi.1.1
    have p1 := hi.1.2.1
    have p2 := hi.1.2.2.1
    have p3 := hi.1.2.2.2.1
    have p12 := hi.2.2.2.1
    refine g_aload_n (pc' := 90) 1 dX10_reach_89 rfl rfl ?_
    refine g_getI (pc' := 93) dX10_reach_90 rfl f_X10_357 rfl rfl (fun v1 ev1 rv1 => ?_)
    refine g_if_ne (pc' := 96) (tgt := 114) rv1 dX10_reach_93 rfl rfl (fun c2 => ?_) (fun c2 => ?_)
    · refine g_aload_n (pc' := 115) 1 dX10_reach_114 rfl rfl ?_
      refine g_getI (pc' := 118) dX10_reach_115 rfl f_X10_357 rfl rfl (fun v3 ev3 rv3 => ?_)
      obtain rfl : v1 = v3 := ev1.trans ev3.symm
      refine g_if_ne (pc' := 121) (tgt := 125) rv1 dX10_reach_118 rfl rfl (fun c4 => ?_) (fun c4 => ?_)
      · refine g_iload (pc' := 127) 2 dX10_reach_125 rfl rfl ?_
        refine g_iconst (pc' := 128) dX10_reach_127 rfl ?_
        refine g_ic_ne (pc' := 131) (tgt := 136) hj (by decide) dX10_reach_128 rfl rfl (fun c5 => ?_) (fun c5 => ?_)
        · refine g_iload (pc' := 138) 2 dX10_reach_136 rfl rfl ?_
          refine g_i2l (pc' := 139) hj dX10_reach_138 rfl ?_
          refine g_lconst (pc' := 140) (v := 0) dX10_reach_139 rfl (by decide) ?_
          refine g_iload (pc' := 142) 0 dX10_reach_140 rfl rfl ?_
          refine g_i2l (pc' := 143) ⟨by omega, by omega⟩ dX10_reach_142 rfl ?_
          refine g_lconst (pc' := 144) (v := 1) dX10_reach_143 rfl (by decide) ?_
          refine g_lsub (pc' := 145) dX10_reach_144 rfl ?_
          refine g_callSip (pc' := 148) (As := [vl j, vl 0, vl (n - 1)]) (S := []) dX10_reach_145 rfl m_X10_83 w_X10_in (c_X10_in X M1 j ⟨by omega, by omega⟩ 0 (by decide) (n - 1) ⟨by omega, by omega⟩) rfl (by decide) (by decide) rfl (Nat.le_of_ble_eq_true rfl) (fun z7 q6 => ?_)
          refine g_if_eq (pc' := 151) (tgt := 162) ⟨by omega, by omega⟩ dX10_reach_148 rfl rfl (fun c8 => ?_) (fun c8 => ?_)
          · replace q6 := q6.resolve_left (fun h => absurd (c8.symm.trans h.1) (by decide))
            refine g_iconst (pc' := 163) dX10_reach_162 rfl ?_
            refine g_ireturn dX10_reach_163 ?_
            exact ⟨ic1, fr1, q99_0, q99_1, q99_2, q99_3, q100_0, q100_1, q100_2, q100_3, q100_49, q100_50, q100_51, q100_52, q103_0, q103_1, q97_12, q97_17, q97_33, q97_10, q97_44, q97_1, by first | assumption | decide | omega, e25⟩
          · replace q6 := q6.resolve_right (fun h => c8 h.1)
            refine g_aload_n (pc' := 152) 1 dX10_reach_151 rfl rfl ?_
            refine g_iload (pc' := 154) 2 dX10_reach_152 rfl rfl ?_
            refine g_iload (pc' := 156) 3 dX10_reach_154 rfl rfl ?_
            refine g_callVip (pc' := 159) (As := [vi j, vi w]) (b := 97) (S := []) dX10_reach_156 rfl m_X10_374 w_X10_ofMove (c_X10_ofMove X M1 ic1 j hj w hw (by omega)) rfl ⟨_, _, _, rfl, rfl, rfl⟩ (by decide) (by decide) rfl (Nat.le_of_ble_eq_true rfl) (fun z10 q9 => ?_)
            refine g_goto (tgt := 163) dX10_reach_159 rfl ?_
            refine g_ireturn dX10_reach_163 ?_
            exact ⟨ic1, fr1, q99_0, q99_1, q99_2, q99_3, q100_0, q100_1, q100_2, q100_3, q100_49, q100_50, q100_51, q100_52, q103_0, q103_1, q97_12, q97_17, q97_33, q97_10, q97_44, q97_1, by first | assumption | decide | omega, e25⟩
        · refine g_iload (pc' := 133) 0 dX10_reach_131 rfl rfl ?_
          refine g_goto (tgt := 163) dX10_reach_133 rfl ?_
          refine g_ireturn dX10_reach_163 ?_
          exact ⟨ic1, fr1, q99_0, q99_1, q99_2, q99_3, q100_0, q100_1, q100_2, q100_3, q100_49, q100_50, q100_51, q100_52, q103_0, q103_1, q97_12, q97_17, q97_33, q97_10, q97_44, q97_1, by first | assumption | decide | omega, e25⟩
      · refine g_iconst (pc' := 122) dX10_reach_121 rfl ?_
        refine g_goto (tgt := 163) dX10_reach_122 rfl ?_
        refine g_ireturn dX10_reach_163 ?_
        exact ⟨ic1, fr1, q99_0, q99_1, q99_2, q99_3, q100_0, q100_1, q100_2, q100_3, q100_49, q100_50, q100_51, q100_52, q103_0, q103_1, q97_12, q97_17, q97_33, q97_10, q97_44, q97_1, by first | assumption | decide | omega, e25⟩
    · refine g_iload (pc' := 98) 0 dX10_reach_96 rfl rfl ?_
      refine g_iconst (pc' := 99) dX10_reach_98 rfl ?_
      refine g_ic_ge (pc' := 102) (tgt := 114) ⟨by omega, by omega⟩ (by decide) dX10_reach_99 rfl rfl (fun c11 => ?_) (fun c11 => ?_)
      · refine g_aload_n (pc' := 115) 1 dX10_reach_114 rfl rfl ?_
        refine g_getI (pc' := 118) dX10_reach_115 rfl f_X10_357 rfl rfl (fun v12 ev12 rv12 => ?_)
        obtain rfl : v1 = v12 := ev1.trans ev12.symm
        refine g_if_ne (pc' := 121) (tgt := 125) rv1 dX10_reach_118 rfl rfl (fun c13 => ?_) (fun c13 => ?_)
        · refine g_iload (pc' := 127) 2 dX10_reach_125 rfl rfl ?_
          refine g_iconst (pc' := 128) dX10_reach_127 rfl ?_
          refine g_ic_ne (pc' := 131) (tgt := 136) hj (by decide) dX10_reach_128 rfl rfl (fun c14 => ?_) (fun c14 => ?_)
          · refine g_iload (pc' := 138) 2 dX10_reach_136 rfl rfl ?_
            refine g_i2l (pc' := 139) hj dX10_reach_138 rfl ?_
            refine g_lconst (pc' := 140) (v := 0) dX10_reach_139 rfl (by decide) ?_
            refine g_iload (pc' := 142) 0 dX10_reach_140 rfl rfl ?_
            refine g_i2l (pc' := 143) ⟨by omega, by omega⟩ dX10_reach_142 rfl ?_
            refine g_lconst (pc' := 144) (v := 1) dX10_reach_143 rfl (by decide) ?_
            refine g_lsub (pc' := 145) dX10_reach_144 rfl ?_
            refine g_callSip (pc' := 148) (As := [vl j, vl 0, vl (n - 1)]) (S := []) dX10_reach_145 rfl m_X10_83 w_X10_in (c_X10_in X M1 j ⟨by omega, by omega⟩ 0 (by decide) (n - 1) ⟨by omega, by omega⟩) rfl (by decide) (by decide) rfl (Nat.le_of_ble_eq_true rfl) (fun z16 q15 => ?_)
            refine g_if_eq (pc' := 151) (tgt := 162) ⟨by omega, by omega⟩ dX10_reach_148 rfl rfl (fun c17 => ?_) (fun c17 => ?_)
            · replace q15 := q15.resolve_left (fun h => absurd (c17.symm.trans h.1) (by decide))
              refine g_iconst (pc' := 163) dX10_reach_162 rfl ?_
              refine g_ireturn dX10_reach_163 ?_
              exact ⟨ic1, fr1, q99_0, q99_1, q99_2, q99_3, q100_0, q100_1, q100_2, q100_3, q100_49, q100_50, q100_51, q100_52, q103_0, q103_1, q97_12, q97_17, q97_33, q97_10, q97_44, q97_1, by first | assumption | decide | omega, e25⟩
            · replace q15 := q15.resolve_right (fun h => c17 h.1)
              refine g_aload_n (pc' := 152) 1 dX10_reach_151 rfl rfl ?_
              refine g_iload (pc' := 154) 2 dX10_reach_152 rfl rfl ?_
              refine g_iload (pc' := 156) 3 dX10_reach_154 rfl rfl ?_
              refine g_callVip (pc' := 159) (As := [vi j, vi w]) (b := 97) (S := []) dX10_reach_156 rfl m_X10_374 w_X10_ofMove (c_X10_ofMove X M1 ic1 j hj w hw (by omega)) rfl ⟨_, _, _, rfl, rfl, rfl⟩ (by decide) (by decide) rfl (Nat.le_of_ble_eq_true rfl) (fun z19 q18 => ?_)
              refine g_goto (tgt := 163) dX10_reach_159 rfl ?_
              refine g_ireturn dX10_reach_163 ?_
              exact ⟨ic1, fr1, q99_0, q99_1, q99_2, q99_3, q100_0, q100_1, q100_2, q100_3, q100_49, q100_50, q100_51, q100_52, q103_0, q103_1, q97_12, q97_17, q97_33, q97_10, q97_44, q97_1, by first | assumption | decide | omega, e25⟩
          · refine g_iload (pc' := 133) 0 dX10_reach_131 rfl rfl ?_
            refine g_goto (tgt := 163) dX10_reach_133 rfl ?_
            refine g_ireturn dX10_reach_163 ?_
            exact ⟨ic1, fr1, q99_0, q99_1, q99_2, q99_3, q100_0, q100_1, q100_2, q100_3, q100_49, q100_50, q100_51, q100_52, q103_0, q103_1, q97_12, q97_17, q97_33, q97_10, q97_44, q97_1, by first | assumption | decide | omega, e25⟩
        · refine g_iconst (pc' := 122) dX10_reach_121 rfl ?_
          refine g_goto (tgt := 163) dX10_reach_122 rfl ?_
          refine g_ireturn dX10_reach_163 ?_
          exact ⟨ic1, fr1, q99_0, q99_1, q99_2, q99_3, q100_0, q100_1, q100_2, q100_3, q100_49, q100_50, q100_51, q100_52, q103_0, q103_1, q97_12, q97_17, q97_33, q97_10, q97_44, q97_1, by first | assumption | decide | omega, e25⟩
      · refine g_iinc (pc' := 105) (L' := [(7, vi (n + 1)), (0, vr X 97), (5, vi j), (6, vi w)]) 0 dX10_reach_102 rfl rfl (by decide) rfl ?_
        refine g_aload_n (pc' := 106) 1 dX10_reach_105 rfl rfl ?_
        refine g_iload (pc' := 108) 0 dX10_reach_106 rfl rfl ?_
        refine g_callVv (pc' := 111) (As := [vi (n + 1)]) (b := 97) (S := []) dX10_reach_108 rfl m_X10_371 w_X10_goThrough (c_X10_goThrough_x X M1 ic1 (n + 1) ⟨by omega, by omega⟩ (by omega) (by omega)) rfl ⟨_, _, _, rfl, rfl, rfl⟩ (by decide) (by decide) rfl (Nat.le_of_ble_eq_true rfl) (fun M21 q20 => ?_)
        obtain ⟨iM21, fM210, eM21_97_12, eM21_97_37, eM21_97_38, eM21_97_17, eM21_97_33, eM21_97_10, eM21_97_44, eM21_97_1, pM21⟩ := q20
        have fM21 : Fr (fun c => c = 97 ∨ c = 101 ∨ c = 104 ∨ c = 105 ∨ c = 113 ∨ c = 114) M M21 := Fr.tr fr1 fM210 (fun _ z => z)
        have q99_0_M21 : (M21 99 0 = M 99 0) := (congrFun (fM210 99 (by first | decide | omega | (dsimp only; omega))) 0).trans q99_0
        have q99_1_M21 : (M21 99 1 = M 99 1) := (congrFun (fM210 99 (by first | decide | omega | (dsimp only; omega))) 1).trans q99_1
        have q99_2_M21 : (M21 99 2 = M 99 2) := (congrFun (fM210 99 (by first | decide | omega | (dsimp only; omega))) 2).trans q99_2
        have q99_3_M21 : (M21 99 3 = M 99 3) := (congrFun (fM210 99 (by first | decide | omega | (dsimp only; omega))) 3).trans q99_3
        have q100_0_M21 : id (M21 100 0 = M 100 0) := (congrFun (fM210 100 (by first | decide | omega | (dsimp only; omega))) 0).trans q100_0
        have q100_1_M21 : id (M21 100 1 = M 100 1) := (congrFun (fM210 100 (by first | decide | omega | (dsimp only; omega))) 1).trans q100_1
        have q100_2_M21 : id (M21 100 2 = M 100 2) := (congrFun (fM210 100 (by first | decide | omega | (dsimp only; omega))) 2).trans q100_2
        have q100_3_M21 : id (M21 100 3 = M 100 3) := (congrFun (fM210 100 (by first | decide | omega | (dsimp only; omega))) 3).trans q100_3
        have q100_49_M21 : id (M21 100 49 = M 100 49) := (congrFun (fM210 100 (by first | decide | omega | (dsimp only; omega))) 49).trans q100_49
        have q100_50_M21 : id (M21 100 50 = M 100 50) := (congrFun (fM210 100 (by first | decide | omega | (dsimp only; omega))) 50).trans q100_50
        have q100_51_M21 : id (M21 100 51 = M 100 51) := (congrFun (fM210 100 (by first | decide | omega | (dsimp only; omega))) 51).trans q100_51
        have q100_52_M21 : id (M21 100 52 = M 100 52) := (congrFun (fM210 100 (by first | decide | omega | (dsimp only; omega))) 52).trans q100_52
        have q103_0_M21 : id (M21 103 0 = M 103 0) := (congrFun (fM210 103 (by first | decide | omega | (dsimp only; omega))) 0).trans q103_0
        have q103_1_M21 : id (M21 103 1 = M 103 1) := (congrFun (fM210 103 (by first | decide | omega | (dsimp only; omega))) 1).trans q103_1
        have q97_12_M21 : (M21 97 12 = M 97 12) := eM21_97_12.trans q97_12
        have q97_17_M21 : (M21 97 17 = M 97 17) := eM21_97_17.trans q97_17
        have q97_33_M21 : (M21 97 33 = M 97 33) := eM21_97_33.trans q97_33
        have q97_10_M21 : (M21 97 10 = M 97 10) := eM21_97_10.trans q97_10
        have q97_44_M21 : (M21 97 44 = M 97 44) := eM21_97_44.trans q97_44
        have q97_1_M21 : (M21 97 1 = M 97 1) := eM21_97_1.trans q97_1
        have xM21_97_37 : M21 97 37 = a := eM21_97_37.trans h37
        have xM21_97_38 : M21 97 38 = b := eM21_97_38.trans h38
        have e25M21 : E25 (M 101) (M21 101) := E25.tr e25 pM21
        refine g_goto (tgt := 89) dX10_reach_111 rfl ?_
        refine g_sub [0, 1, 2, 3] rfl ?_
        exact ih _ (by omega) (n + 1) M21 iM21 fM21 q99_0_M21 q99_1_M21 q99_2_M21 q99_3_M21 q100_0_M21 q100_1_M21 q100_2_M21 q100_3_M21 q100_49_M21 q100_50_M21 q100_51_M21 q100_52_M21 q103_0_M21 q103_1_M21 q97_12_M21 q97_17_M21 q97_33_M21 q97_10_M21 q97_44_M21 q97_1_M21 (by omega) (by omega) (by omega) (by omega) (by omega) (by omega) e25M21 rfl
set_option maxHeartbeats 4000000 in
set_option maxRecDepth 100000 in
theorem c_X10_reach_x (X : Cx) (M : Mm) (hi : IM M) (a : Int) (ha : inI a) (b : Int) (hb : inI b) (c : Int) (hc : inI c) (e : Int) (he : inI e) (j : Int) (hj : inI j) (w : Int) (hw : inI w) : Con X 14 yX10_reach cX10_reach 8 (some .int) [vr X 97, vi a, vi b, vi c, vi e, vi j, vi w] M (Qi (fun r M1 => IM M1 ∧ Fr (fun c => c = 97 ∨ c = 101 ∨ c = 104 ∨ c = 105 ∨ c = 113 ∨ c = 114) M M1 ∧ M1 99 0 = M 99 0 ∧ M1 99 1 = M 99 1 ∧ M1 99 2 = M 99 2 ∧ M1 99 3 = M 99 3 ∧ M1 100 0 = M 100 0 ∧ M1 100 1 = M 100 1 ∧ M1 100 2 = M 100 2 ∧ M1 100 3 = M 100 3 ∧ M1 100 49 = M 100 49 ∧ M1 100 50 = M 100 50 ∧ M1 100 51 = M 100 51 ∧ M1 100 52 = M 100 52 ∧ M1 103 0 = M 103 0 ∧ M1 103 1 = M 103 1 ∧ M1 97 12 = M 97 12 ∧ M1 97 17 = M 97 17 ∧ M1 97 33 = M 97 33 ∧ M1 97 10 = M 97 10 ∧ M1 97 44 = M 97 44 ∧ M1 97 1 = M 97 1 ∧ (inI r ∧ E25 (M 101) (M1 101)))) := by
  refine Con.ofG rfl (Nat.le_of_ble_eq_true rfl) ?_
  show G X 14 RX10 cX10_reach 8 (some .int) (Qi (fun r M1 => IM M1 ∧ Fr (fun c => c = 97 ∨ c = 101 ∨ c = 104 ∨ c = 105 ∨ c = 113 ∨ c = 114) M M1 ∧ M1 99 0 = M 99 0 ∧ M1 99 1 = M 99 1 ∧ M1 99 2 = M 99 2 ∧ M1 99 3 = M 99 3 ∧ M1 100 0 = M 100 0 ∧ M1 100 1 = M 100 1 ∧ M1 100 2 = M 100 2 ∧ M1 100 3 = M 100 3 ∧ M1 100 49 = M 100 49 ∧ M1 100 50 = M 100 50 ∧ M1 100 51 = M 100 51 ∧ M1 100 52 = M 100 52 ∧ M1 103 0 = M 103 0 ∧ M1 103 1 = M 103 1 ∧ M1 97 12 = M 97 12 ∧ M1 97 17 = M 97 17 ∧ M1 97 33 = M 97 33 ∧ M1 97 10 = M 97 10 ∧ M1 97 44 = M 97 44 ∧ M1 97 1 = M 97 1 ∧ (inI r ∧ E25 (M 101) (M1 101)))) 0 [(0, vr X 97), (1, vi a), (2, vi b), (3, vi c), (4, vi e), (5, vi j), (6, vi w)] [] M
  have p0 := hi.1.1
  have p1 := hi.1.2.1
  have p2 := hi.1.2.2.1
  have p3 := hi.1.2.2.2.1
  have p12 := hi.2.2.2.1
  refine g_aload_n (pc' := 1) 0 dX10_reach_0 rfl rfl ?_
  refine g_iconst (pc' := 2) dX10_reach_1 rfl ?_
  refine g_putI (pc' := 5) dX10_reach_2 rfl p_X10_77 rfl rfl (by decide) (fun M1 hM1 => ?_)
  have iM1 : IM M1 := IM.wr hi hM1 (by unfold okv; first | decide | omega)
  have fM1 : Fr (fun c => c = 97 ∨ c = 101 ∨ c = 104 ∨ c = 105 ∨ c = 113 ∨ c = 114) M M1 := Fr.wr Fr.rf hM1 (by first | decide | omega | (dsimp only; omega))
  have q99_0_M1 : (M1 99 0 = M 99 0) := (show M1 99 0 = M 99 0 by rw [hM1]; exact mu_ne _ _ (by first | decide | omega))
  have q99_1_M1 : (M1 99 1 = M 99 1) := (show M1 99 1 = M 99 1 by rw [hM1]; exact mu_ne _ _ (by first | decide | omega))
  have q99_2_M1 : (M1 99 2 = M 99 2) := (show M1 99 2 = M 99 2 by rw [hM1]; exact mu_ne _ _ (by first | decide | omega))
  have q99_3_M1 : (M1 99 3 = M 99 3) := (show M1 99 3 = M 99 3 by rw [hM1]; exact mu_ne _ _ (by first | decide | omega))
  have q100_0_M1 : id (M1 100 0 = M 100 0) := (show M1 100 0 = M 100 0 by rw [hM1]; exact mu_ne _ _ (by first | decide | omega))
  have q100_1_M1 : id (M1 100 1 = M 100 1) := (show M1 100 1 = M 100 1 by rw [hM1]; exact mu_ne _ _ (by first | decide | omega))
  have q100_2_M1 : id (M1 100 2 = M 100 2) := (show M1 100 2 = M 100 2 by rw [hM1]; exact mu_ne _ _ (by first | decide | omega))
  have q100_3_M1 : id (M1 100 3 = M 100 3) := (show M1 100 3 = M 100 3 by rw [hM1]; exact mu_ne _ _ (by first | decide | omega))
  have q100_49_M1 : id (M1 100 49 = M 100 49) := (show M1 100 49 = M 100 49 by rw [hM1]; exact mu_ne _ _ (by first | decide | omega))
  have q100_50_M1 : id (M1 100 50 = M 100 50) := (show M1 100 50 = M 100 50 by rw [hM1]; exact mu_ne _ _ (by first | decide | omega))
  have q100_51_M1 : id (M1 100 51 = M 100 51) := (show M1 100 51 = M 100 51 by rw [hM1]; exact mu_ne _ _ (by first | decide | omega))
  have q100_52_M1 : id (M1 100 52 = M 100 52) := (show M1 100 52 = M 100 52 by rw [hM1]; exact mu_ne _ _ (by first | decide | omega))
  have q103_0_M1 : id (M1 103 0 = M 103 0) := (show M1 103 0 = M 103 0 by rw [hM1]; exact mu_ne _ _ (by first | decide | omega))
  have q103_1_M1 : id (M1 103 1 = M 103 1) := (show M1 103 1 = M 103 1 by rw [hM1]; exact mu_ne _ _ (by first | decide | omega))
  have q97_12_M1 : (M1 97 12 = M 97 12) := (show M1 97 12 = M 97 12 by rw [hM1]; exact mu_ne _ _ (by first | decide | omega))
  have q97_17_M1 : (M1 97 17 = M 97 17) := (show M1 97 17 = M 97 17 by rw [hM1]; exact mu_ne _ _ (by first | decide | omega))
  have q97_33_M1 : (M1 97 33 = M 97 33) := (show M1 97 33 = M 97 33 by rw [hM1]; exact mu_ne _ _ (by first | decide | omega))
  have q97_10_M1 : (M1 97 10 = M 97 10) := (show M1 97 10 = M 97 10 by rw [hM1]; exact mu_ne _ _ (by first | decide | omega))
  have q97_44_M1 : (M1 97 44 = M 97 44) := (show M1 97 44 = M 97 44 by rw [hM1]; exact mu_ne _ _ (by first | decide | omega))
  have q97_1_M1 : (M1 97 1 = M 97 1) := (show M1 97 1 = M 97 1 by rw [hM1]; exact mu_ne _ _ (by first | decide | omega))
  have xM1_97_0 : M1 97 0 = 0 := by rw [hM1]; exact mu_at _ _ _ _
  have e25M1 : E25 (M 101) (M1 101) := by rw [hM1, mu_cell _ _ (by decide)]; exact (E25.rf (M 101))
  refine g_aload_n (pc' := 6) 0 dX10_reach_5 rfl rfl ?_
  refine g_iload_n (pc' := 7) 1 dX10_reach_6 rfl rfl ?_
  refine g_callVip (pc' := 10) (As := [vi a]) (b := 97) (S := []) dX10_reach_7 rfl m_X10_102 w_X10_isGlass (c_X10_isGlass X M1 iM1 a ha) rfl ⟨_, _, _, rfl, rfl, rfl⟩ (by decide) (by decide) rfl (Nat.le_of_ble_eq_true rfl) (fun z3 q2 => ?_)
  refine g_if_eq (pc' := 13) (tgt := 58) ⟨by omega, by omega⟩ dX10_reach_10 rfl rfl (fun c4 => ?_) (fun c4 => ?_)
  · replace q2 := q2.resolve_left (fun h => absurd (c4.symm.trans h.1) (by decide))
    refine g_iconst (pc' := 59) dX10_reach_58 rfl ?_
    refine g_ireturn dX10_reach_59 ?_
    exact ⟨iM1, fM1, q99_0_M1, q99_1_M1, q99_2_M1, q99_3_M1, q100_0_M1, q100_1_M1, q100_2_M1, q100_3_M1, q100_49_M1, q100_50_M1, q100_51_M1, q100_52_M1, q103_0_M1, q103_1_M1, q97_12_M1, q97_17_M1, q97_33_M1, q97_10_M1, q97_44_M1, q97_1_M1, by first | assumption | decide | omega, e25M1⟩
  · replace q2 := q2.resolve_right (fun h => c4 h.1)
    refine g_iload_n (pc' := 14) 2 dX10_reach_13 rfl rfl ?_
    refine g_callSip (pc' := 17) (As := [vi b]) (S := []) dX10_reach_14 rfl m_X10_105 w_X10_isStuff (c_X10_isStuff X M1 b hb) rfl (by decide) (by decide) rfl (Nat.le_of_ble_eq_true rfl) (fun z6 q5 => ?_)
    refine g_if_eq (pc' := 20) (tgt := 58) ⟨by omega, by omega⟩ dX10_reach_17 rfl rfl (fun c7 => ?_) (fun c7 => ?_)
    · replace q5 := q5.resolve_left (fun h => absurd (c7.symm.trans h.1) (by decide))
      refine g_iconst (pc' := 59) dX10_reach_58 rfl ?_
      refine g_ireturn dX10_reach_59 ?_
      exact ⟨iM1, fM1, q99_0_M1, q99_1_M1, q99_2_M1, q99_3_M1, q100_0_M1, q100_1_M1, q100_2_M1, q100_3_M1, q100_49_M1, q100_50_M1, q100_51_M1, q100_52_M1, q103_0_M1, q103_1_M1, q97_12_M1, q97_17_M1, q97_33_M1, q97_10_M1, q97_44_M1, q97_1_M1, by first | assumption | decide | omega, e25M1⟩
    · replace q5 := q5.resolve_right (fun h => c7 h.1)
      refine g_iload_n (pc' := 21) 3 dX10_reach_20 rfl rfl ?_
      refine g_i2l (pc' := 22) hc dX10_reach_21 rfl ?_
      refine g_lconst (pc' := 23) (v := 0) dX10_reach_22 rfl (by decide) ?_
      refine g_ldc2 (pc' := 26) (v := 100) dX10_reach_23 rfl k_X10_110 ?_
      refine g_callSip (pc' := 29) (As := [vl c, vl 0, vl 100]) (S := []) dX10_reach_26 rfl m_X10_83 w_X10_in (c_X10_in X M1 c ⟨by omega, by omega⟩ 0 (by decide) 100 (by decide)) rfl (by decide) (by decide) rfl (Nat.le_of_ble_eq_true rfl) (fun z9 q8 => ?_)
      refine g_if_eq (pc' := 32) (tgt := 58) ⟨by omega, by omega⟩ dX10_reach_29 rfl rfl (fun c10 => ?_) (fun c10 => ?_)
      · replace q8 := q8.resolve_left (fun h => absurd (c10.symm.trans h.1) (by decide))
        refine g_iconst (pc' := 59) dX10_reach_58 rfl ?_
        refine g_ireturn dX10_reach_59 ?_
        exact ⟨iM1, fM1, q99_0_M1, q99_1_M1, q99_2_M1, q99_3_M1, q100_0_M1, q100_1_M1, q100_2_M1, q100_3_M1, q100_49_M1, q100_50_M1, q100_51_M1, q100_52_M1, q103_0_M1, q103_1_M1, q97_12_M1, q97_17_M1, q97_33_M1, q97_10_M1, q97_44_M1, q97_1_M1, by first | assumption | decide | omega, e25M1⟩
      · replace q8 := q8.resolve_right (fun h => c10 h.1)
        refine g_iload (pc' := 34) 4 dX10_reach_32 rfl rfl ?_
        refine g_i2l (pc' := 35) he dX10_reach_34 rfl ?_
        refine g_lconst (pc' := 36) (v := 0) dX10_reach_35 rfl (by decide) ?_
        refine g_ldc2 (pc' := 39) (v := 100) dX10_reach_36 rfl k_X10_110 ?_
        refine g_callSip (pc' := 42) (As := [vl e, vl 0, vl 100]) (S := []) dX10_reach_39 rfl m_X10_83 w_X10_in (c_X10_in X M1 e ⟨by omega, by omega⟩ 0 (by decide) 100 (by decide)) rfl (by decide) (by decide) rfl (Nat.le_of_ble_eq_true rfl) (fun z12 q11 => ?_)
        refine g_if_eq (pc' := 45) (tgt := 58) ⟨by omega, by omega⟩ dX10_reach_42 rfl rfl (fun c13 => ?_) (fun c13 => ?_)
        · replace q11 := q11.resolve_left (fun h => absurd (c13.symm.trans h.1) (by decide))
          refine g_iconst (pc' := 59) dX10_reach_58 rfl ?_
          refine g_ireturn dX10_reach_59 ?_
          exact ⟨iM1, fM1, q99_0_M1, q99_1_M1, q99_2_M1, q99_3_M1, q100_0_M1, q100_1_M1, q100_2_M1, q100_3_M1, q100_49_M1, q100_50_M1, q100_51_M1, q100_52_M1, q103_0_M1, q103_1_M1, q97_12_M1, q97_17_M1, q97_33_M1, q97_10_M1, q97_44_M1, q97_1_M1, by first | assumption | decide | omega, e25M1⟩
        · replace q11 := q11.resolve_right (fun h => c13 h.1)
          refine g_iload (pc' := 47) 6 dX10_reach_45 rfl rfl ?_
          refine g_i2l (pc' := 48) hw dX10_reach_47 rfl ?_
          refine g_lconst (pc' := 49) (v := 0) dX10_reach_48 rfl (by decide) ?_
          refine g_ldc2 (pc' := 52) (v := 2) dX10_reach_49 rfl k_X10_369 ?_
          refine g_callSip (pc' := 55) (As := [vl w, vl 0, vl 2]) (S := []) dX10_reach_52 rfl m_X10_83 w_X10_in (c_X10_in X M1 w ⟨by omega, by omega⟩ 0 (by decide) 2 (by decide)) rfl (by decide) (by decide) rfl (Nat.le_of_ble_eq_true rfl) (fun z15 q14 => ?_)
          refine g_if_ne (pc' := 58) (tgt := 60) ⟨by omega, by omega⟩ dX10_reach_55 rfl rfl (fun c16 => ?_) (fun c16 => ?_)
          · replace q14 := q14.resolve_right (fun h => c16 h.1)
            refine g_aload_n (pc' := 61) 0 dX10_reach_60 rfl rfl ?_
            refine g_iload_n (pc' := 62) 1 dX10_reach_61 rfl rfl ?_
            refine g_putI (pc' := 65) dX10_reach_62 rfl p_X10_345 rfl rfl ha (fun M17 hM17 => ?_)
            have iM17 : IM M17 := IM.wr iM1 hM17 (by unfold okv; first | decide | omega)
            have fM17 : Fr (fun c => c = 97 ∨ c = 101 ∨ c = 104 ∨ c = 105 ∨ c = 113 ∨ c = 114) M M17 := Fr.wr fM1 hM17 (by first | decide | omega | (dsimp only; omega))
            have q99_0_M17 : (M17 99 0 = M 99 0) := (show M17 99 0 = M1 99 0 by rw [hM17]; exact mu_ne _ _ (by first | decide | omega)).trans q99_0_M1
            have q99_1_M17 : (M17 99 1 = M 99 1) := (show M17 99 1 = M1 99 1 by rw [hM17]; exact mu_ne _ _ (by first | decide | omega)).trans q99_1_M1
            have q99_2_M17 : (M17 99 2 = M 99 2) := (show M17 99 2 = M1 99 2 by rw [hM17]; exact mu_ne _ _ (by first | decide | omega)).trans q99_2_M1
            have q99_3_M17 : (M17 99 3 = M 99 3) := (show M17 99 3 = M1 99 3 by rw [hM17]; exact mu_ne _ _ (by first | decide | omega)).trans q99_3_M1
            have q100_0_M17 : id (M17 100 0 = M 100 0) := (show M17 100 0 = M1 100 0 by rw [hM17]; exact mu_ne _ _ (by first | decide | omega)).trans q100_0_M1
            have q100_1_M17 : id (M17 100 1 = M 100 1) := (show M17 100 1 = M1 100 1 by rw [hM17]; exact mu_ne _ _ (by first | decide | omega)).trans q100_1_M1
            have q100_2_M17 : id (M17 100 2 = M 100 2) := (show M17 100 2 = M1 100 2 by rw [hM17]; exact mu_ne _ _ (by first | decide | omega)).trans q100_2_M1
            have q100_3_M17 : id (M17 100 3 = M 100 3) := (show M17 100 3 = M1 100 3 by rw [hM17]; exact mu_ne _ _ (by first | decide | omega)).trans q100_3_M1
            have q100_49_M17 : id (M17 100 49 = M 100 49) := (show M17 100 49 = M1 100 49 by rw [hM17]; exact mu_ne _ _ (by first | decide | omega)).trans q100_49_M1
            have q100_50_M17 : id (M17 100 50 = M 100 50) := (show M17 100 50 = M1 100 50 by rw [hM17]; exact mu_ne _ _ (by first | decide | omega)).trans q100_50_M1
            have q100_51_M17 : id (M17 100 51 = M 100 51) := (show M17 100 51 = M1 100 51 by rw [hM17]; exact mu_ne _ _ (by first | decide | omega)).trans q100_51_M1
            have q100_52_M17 : id (M17 100 52 = M 100 52) := (show M17 100 52 = M1 100 52 by rw [hM17]; exact mu_ne _ _ (by first | decide | omega)).trans q100_52_M1
            have q103_0_M17 : id (M17 103 0 = M 103 0) := (show M17 103 0 = M1 103 0 by rw [hM17]; exact mu_ne _ _ (by first | decide | omega)).trans q103_0_M1
            have q103_1_M17 : id (M17 103 1 = M 103 1) := (show M17 103 1 = M1 103 1 by rw [hM17]; exact mu_ne _ _ (by first | decide | omega)).trans q103_1_M1
            have q97_12_M17 : (M17 97 12 = M 97 12) := (show M17 97 12 = M1 97 12 by rw [hM17]; exact mu_ne _ _ (by first | decide | omega)).trans q97_12_M1
            have q97_17_M17 : (M17 97 17 = M 97 17) := (show M17 97 17 = M1 97 17 by rw [hM17]; exact mu_ne _ _ (by first | decide | omega)).trans q97_17_M1
            have q97_33_M17 : (M17 97 33 = M 97 33) := (show M17 97 33 = M1 97 33 by rw [hM17]; exact mu_ne _ _ (by first | decide | omega)).trans q97_33_M1
            have q97_10_M17 : (M17 97 10 = M 97 10) := (show M17 97 10 = M1 97 10 by rw [hM17]; exact mu_ne _ _ (by first | decide | omega)).trans q97_10_M1
            have q97_44_M17 : (M17 97 44 = M 97 44) := (show M17 97 44 = M1 97 44 by rw [hM17]; exact mu_ne _ _ (by first | decide | omega)).trans q97_44_M1
            have q97_1_M17 : (M17 97 1 = M 97 1) := (show M17 97 1 = M1 97 1 by rw [hM17]; exact mu_ne _ _ (by first | decide | omega)).trans q97_1_M1
            have xM17_97_0 : M17 97 0 = 0 := (show M17 97 0 = M1 97 0 by rw [hM17]; exact mu_ne _ _ (by first | decide | omega)).trans xM1_97_0
            have xM17_97_37 : M17 97 37 = a := by rw [hM17]; exact mu_at _ _ _ _
            have e25M17 : E25 (M 101) (M17 101) := by rw [hM17, mu_cell _ _ (by decide)]; exact e25M1
            refine g_aload_n (pc' := 66) 0 dX10_reach_65 rfl rfl ?_
            refine g_iload_n (pc' := 67) 2 dX10_reach_66 rfl rfl ?_
            refine g_putI (pc' := 70) dX10_reach_67 rfl p_X10_348 rfl rfl hb (fun M18 hM18 => ?_)
            have iM18 : IM M18 := IM.wr iM17 hM18 (by unfold okv; first | decide | omega)
            have fM18 : Fr (fun c => c = 97 ∨ c = 101 ∨ c = 104 ∨ c = 105 ∨ c = 113 ∨ c = 114) M M18 := Fr.wr fM17 hM18 (by first | decide | omega | (dsimp only; omega))
            have q99_0_M18 : (M18 99 0 = M 99 0) := (show M18 99 0 = M17 99 0 by rw [hM18]; exact mu_ne _ _ (by first | decide | omega)).trans q99_0_M17
            have q99_1_M18 : (M18 99 1 = M 99 1) := (show M18 99 1 = M17 99 1 by rw [hM18]; exact mu_ne _ _ (by first | decide | omega)).trans q99_1_M17
            have q99_2_M18 : (M18 99 2 = M 99 2) := (show M18 99 2 = M17 99 2 by rw [hM18]; exact mu_ne _ _ (by first | decide | omega)).trans q99_2_M17
            have q99_3_M18 : (M18 99 3 = M 99 3) := (show M18 99 3 = M17 99 3 by rw [hM18]; exact mu_ne _ _ (by first | decide | omega)).trans q99_3_M17
            have q100_0_M18 : id (M18 100 0 = M 100 0) := (show M18 100 0 = M17 100 0 by rw [hM18]; exact mu_ne _ _ (by first | decide | omega)).trans q100_0_M17
            have q100_1_M18 : id (M18 100 1 = M 100 1) := (show M18 100 1 = M17 100 1 by rw [hM18]; exact mu_ne _ _ (by first | decide | omega)).trans q100_1_M17
            have q100_2_M18 : id (M18 100 2 = M 100 2) := (show M18 100 2 = M17 100 2 by rw [hM18]; exact mu_ne _ _ (by first | decide | omega)).trans q100_2_M17
            have q100_3_M18 : id (M18 100 3 = M 100 3) := (show M18 100 3 = M17 100 3 by rw [hM18]; exact mu_ne _ _ (by first | decide | omega)).trans q100_3_M17
            have q100_49_M18 : id (M18 100 49 = M 100 49) := (show M18 100 49 = M17 100 49 by rw [hM18]; exact mu_ne _ _ (by first | decide | omega)).trans q100_49_M17
            have q100_50_M18 : id (M18 100 50 = M 100 50) := (show M18 100 50 = M17 100 50 by rw [hM18]; exact mu_ne _ _ (by first | decide | omega)).trans q100_50_M17
            have q100_51_M18 : id (M18 100 51 = M 100 51) := (show M18 100 51 = M17 100 51 by rw [hM18]; exact mu_ne _ _ (by first | decide | omega)).trans q100_51_M17
            have q100_52_M18 : id (M18 100 52 = M 100 52) := (show M18 100 52 = M17 100 52 by rw [hM18]; exact mu_ne _ _ (by first | decide | omega)).trans q100_52_M17
            have q103_0_M18 : id (M18 103 0 = M 103 0) := (show M18 103 0 = M17 103 0 by rw [hM18]; exact mu_ne _ _ (by first | decide | omega)).trans q103_0_M17
            have q103_1_M18 : id (M18 103 1 = M 103 1) := (show M18 103 1 = M17 103 1 by rw [hM18]; exact mu_ne _ _ (by first | decide | omega)).trans q103_1_M17
            have q97_12_M18 : (M18 97 12 = M 97 12) := (show M18 97 12 = M17 97 12 by rw [hM18]; exact mu_ne _ _ (by first | decide | omega)).trans q97_12_M17
            have q97_17_M18 : (M18 97 17 = M 97 17) := (show M18 97 17 = M17 97 17 by rw [hM18]; exact mu_ne _ _ (by first | decide | omega)).trans q97_17_M17
            have q97_33_M18 : (M18 97 33 = M 97 33) := (show M18 97 33 = M17 97 33 by rw [hM18]; exact mu_ne _ _ (by first | decide | omega)).trans q97_33_M17
            have q97_10_M18 : (M18 97 10 = M 97 10) := (show M18 97 10 = M17 97 10 by rw [hM18]; exact mu_ne _ _ (by first | decide | omega)).trans q97_10_M17
            have q97_44_M18 : (M18 97 44 = M 97 44) := (show M18 97 44 = M17 97 44 by rw [hM18]; exact mu_ne _ _ (by first | decide | omega)).trans q97_44_M17
            have q97_1_M18 : (M18 97 1 = M 97 1) := (show M18 97 1 = M17 97 1 by rw [hM18]; exact mu_ne _ _ (by first | decide | omega)).trans q97_1_M17
            have xM18_97_0 : M18 97 0 = 0 := (show M18 97 0 = M17 97 0 by rw [hM18]; exact mu_ne _ _ (by first | decide | omega)).trans xM17_97_0
            have xM18_97_37 : M18 97 37 = a := (show M18 97 37 = M17 97 37 by rw [hM18]; exact mu_ne _ _ (by first | decide | omega)).trans xM17_97_37
            have xM18_97_38 : M18 97 38 = b := by rw [hM18]; exact mu_at _ _ _ _
            have e25M18 : E25 (M 101) (M18 101) := by rw [hM18, mu_cell _ _ (by decide)]; exact e25M17
            refine g_aload_n (pc' := 71) 0 dX10_reach_70 rfl rfl ?_
            refine g_iload_n (pc' := 72) 3 dX10_reach_71 rfl rfl ?_
            refine g_putI (pc' := 75) dX10_reach_72 rfl p_X10_351 rfl rfl hc (fun M19 hM19 => ?_)
            have iM19 : IM M19 := IM.wr iM18 hM19 (by unfold okv; first | decide | omega)
            have fM19 : Fr (fun c => c = 97 ∨ c = 101 ∨ c = 104 ∨ c = 105 ∨ c = 113 ∨ c = 114) M M19 := Fr.wr fM18 hM19 (by first | decide | omega | (dsimp only; omega))
            have q99_0_M19 : (M19 99 0 = M 99 0) := (show M19 99 0 = M18 99 0 by rw [hM19]; exact mu_ne _ _ (by first | decide | omega)).trans q99_0_M18
            have q99_1_M19 : (M19 99 1 = M 99 1) := (show M19 99 1 = M18 99 1 by rw [hM19]; exact mu_ne _ _ (by first | decide | omega)).trans q99_1_M18
            have q99_2_M19 : (M19 99 2 = M 99 2) := (show M19 99 2 = M18 99 2 by rw [hM19]; exact mu_ne _ _ (by first | decide | omega)).trans q99_2_M18
            have q99_3_M19 : (M19 99 3 = M 99 3) := (show M19 99 3 = M18 99 3 by rw [hM19]; exact mu_ne _ _ (by first | decide | omega)).trans q99_3_M18
            have q100_0_M19 : id (M19 100 0 = M 100 0) := (show M19 100 0 = M18 100 0 by rw [hM19]; exact mu_ne _ _ (by first | decide | omega)).trans q100_0_M18
            have q100_1_M19 : id (M19 100 1 = M 100 1) := (show M19 100 1 = M18 100 1 by rw [hM19]; exact mu_ne _ _ (by first | decide | omega)).trans q100_1_M18
            have q100_2_M19 : id (M19 100 2 = M 100 2) := (show M19 100 2 = M18 100 2 by rw [hM19]; exact mu_ne _ _ (by first | decide | omega)).trans q100_2_M18
            have q100_3_M19 : id (M19 100 3 = M 100 3) := (show M19 100 3 = M18 100 3 by rw [hM19]; exact mu_ne _ _ (by first | decide | omega)).trans q100_3_M18
            have q100_49_M19 : id (M19 100 49 = M 100 49) := (show M19 100 49 = M18 100 49 by rw [hM19]; exact mu_ne _ _ (by first | decide | omega)).trans q100_49_M18
            have q100_50_M19 : id (M19 100 50 = M 100 50) := (show M19 100 50 = M18 100 50 by rw [hM19]; exact mu_ne _ _ (by first | decide | omega)).trans q100_50_M18
            have q100_51_M19 : id (M19 100 51 = M 100 51) := (show M19 100 51 = M18 100 51 by rw [hM19]; exact mu_ne _ _ (by first | decide | omega)).trans q100_51_M18
            have q100_52_M19 : id (M19 100 52 = M 100 52) := (show M19 100 52 = M18 100 52 by rw [hM19]; exact mu_ne _ _ (by first | decide | omega)).trans q100_52_M18
            have q103_0_M19 : id (M19 103 0 = M 103 0) := (show M19 103 0 = M18 103 0 by rw [hM19]; exact mu_ne _ _ (by first | decide | omega)).trans q103_0_M18
            have q103_1_M19 : id (M19 103 1 = M 103 1) := (show M19 103 1 = M18 103 1 by rw [hM19]; exact mu_ne _ _ (by first | decide | omega)).trans q103_1_M18
            have q97_12_M19 : (M19 97 12 = M 97 12) := (show M19 97 12 = M18 97 12 by rw [hM19]; exact mu_ne _ _ (by first | decide | omega)).trans q97_12_M18
            have q97_17_M19 : (M19 97 17 = M 97 17) := (show M19 97 17 = M18 97 17 by rw [hM19]; exact mu_ne _ _ (by first | decide | omega)).trans q97_17_M18
            have q97_33_M19 : (M19 97 33 = M 97 33) := (show M19 97 33 = M18 97 33 by rw [hM19]; exact mu_ne _ _ (by first | decide | omega)).trans q97_33_M18
            have q97_10_M19 : (M19 97 10 = M 97 10) := (show M19 97 10 = M18 97 10 by rw [hM19]; exact mu_ne _ _ (by first | decide | omega)).trans q97_10_M18
            have q97_44_M19 : (M19 97 44 = M 97 44) := (show M19 97 44 = M18 97 44 by rw [hM19]; exact mu_ne _ _ (by first | decide | omega)).trans q97_44_M18
            have q97_1_M19 : (M19 97 1 = M 97 1) := (show M19 97 1 = M18 97 1 by rw [hM19]; exact mu_ne _ _ (by first | decide | omega)).trans q97_1_M18
            have xM19_97_0 : M19 97 0 = 0 := (show M19 97 0 = M18 97 0 by rw [hM19]; exact mu_ne _ _ (by first | decide | omega)).trans xM18_97_0
            have xM19_97_37 : M19 97 37 = a := (show M19 97 37 = M18 97 37 by rw [hM19]; exact mu_ne _ _ (by first | decide | omega)).trans xM18_97_37
            have xM19_97_38 : M19 97 38 = b := (show M19 97 38 = M18 97 38 by rw [hM19]; exact mu_ne _ _ (by first | decide | omega)).trans xM18_97_38
            have xM19_97_39 : M19 97 39 = c := by rw [hM19]; exact mu_at _ _ _ _
            have e25M19 : E25 (M 101) (M19 101) := by rw [hM19, mu_cell _ _ (by decide)]; exact e25M18
            refine g_aload_n (pc' := 76) 0 dX10_reach_75 rfl rfl ?_
            refine g_iload (pc' := 78) 4 dX10_reach_76 rfl rfl ?_
            refine g_putI (pc' := 81) dX10_reach_78 rfl p_X10_354 rfl rfl he (fun M20 hM20 => ?_)
            have iM20 : IM M20 := IM.wr iM19 hM20 (by unfold okv; first | decide | omega)
            have fM20 : Fr (fun c => c = 97 ∨ c = 101 ∨ c = 104 ∨ c = 105 ∨ c = 113 ∨ c = 114) M M20 := Fr.wr fM19 hM20 (by first | decide | omega | (dsimp only; omega))
            have q99_0_M20 : (M20 99 0 = M 99 0) := (show M20 99 0 = M19 99 0 by rw [hM20]; exact mu_ne _ _ (by first | decide | omega)).trans q99_0_M19
            have q99_1_M20 : (M20 99 1 = M 99 1) := (show M20 99 1 = M19 99 1 by rw [hM20]; exact mu_ne _ _ (by first | decide | omega)).trans q99_1_M19
            have q99_2_M20 : (M20 99 2 = M 99 2) := (show M20 99 2 = M19 99 2 by rw [hM20]; exact mu_ne _ _ (by first | decide | omega)).trans q99_2_M19
            have q99_3_M20 : (M20 99 3 = M 99 3) := (show M20 99 3 = M19 99 3 by rw [hM20]; exact mu_ne _ _ (by first | decide | omega)).trans q99_3_M19
            have q100_0_M20 : id (M20 100 0 = M 100 0) := (show M20 100 0 = M19 100 0 by rw [hM20]; exact mu_ne _ _ (by first | decide | omega)).trans q100_0_M19
            have q100_1_M20 : id (M20 100 1 = M 100 1) := (show M20 100 1 = M19 100 1 by rw [hM20]; exact mu_ne _ _ (by first | decide | omega)).trans q100_1_M19
            have q100_2_M20 : id (M20 100 2 = M 100 2) := (show M20 100 2 = M19 100 2 by rw [hM20]; exact mu_ne _ _ (by first | decide | omega)).trans q100_2_M19
            have q100_3_M20 : id (M20 100 3 = M 100 3) := (show M20 100 3 = M19 100 3 by rw [hM20]; exact mu_ne _ _ (by first | decide | omega)).trans q100_3_M19
            have q100_49_M20 : id (M20 100 49 = M 100 49) := (show M20 100 49 = M19 100 49 by rw [hM20]; exact mu_ne _ _ (by first | decide | omega)).trans q100_49_M19
            have q100_50_M20 : id (M20 100 50 = M 100 50) := (show M20 100 50 = M19 100 50 by rw [hM20]; exact mu_ne _ _ (by first | decide | omega)).trans q100_50_M19
            have q100_51_M20 : id (M20 100 51 = M 100 51) := (show M20 100 51 = M19 100 51 by rw [hM20]; exact mu_ne _ _ (by first | decide | omega)).trans q100_51_M19
            have q100_52_M20 : id (M20 100 52 = M 100 52) := (show M20 100 52 = M19 100 52 by rw [hM20]; exact mu_ne _ _ (by first | decide | omega)).trans q100_52_M19
            have q103_0_M20 : id (M20 103 0 = M 103 0) := (show M20 103 0 = M19 103 0 by rw [hM20]; exact mu_ne _ _ (by first | decide | omega)).trans q103_0_M19
            have q103_1_M20 : id (M20 103 1 = M 103 1) := (show M20 103 1 = M19 103 1 by rw [hM20]; exact mu_ne _ _ (by first | decide | omega)).trans q103_1_M19
            have q97_12_M20 : (M20 97 12 = M 97 12) := (show M20 97 12 = M19 97 12 by rw [hM20]; exact mu_ne _ _ (by first | decide | omega)).trans q97_12_M19
            have q97_17_M20 : (M20 97 17 = M 97 17) := (show M20 97 17 = M19 97 17 by rw [hM20]; exact mu_ne _ _ (by first | decide | omega)).trans q97_17_M19
            have q97_33_M20 : (M20 97 33 = M 97 33) := (show M20 97 33 = M19 97 33 by rw [hM20]; exact mu_ne _ _ (by first | decide | omega)).trans q97_33_M19
            have q97_10_M20 : (M20 97 10 = M 97 10) := (show M20 97 10 = M19 97 10 by rw [hM20]; exact mu_ne _ _ (by first | decide | omega)).trans q97_10_M19
            have q97_44_M20 : (M20 97 44 = M 97 44) := (show M20 97 44 = M19 97 44 by rw [hM20]; exact mu_ne _ _ (by first | decide | omega)).trans q97_44_M19
            have q97_1_M20 : (M20 97 1 = M 97 1) := (show M20 97 1 = M19 97 1 by rw [hM20]; exact mu_ne _ _ (by first | decide | omega)).trans q97_1_M19
            have xM20_97_0 : M20 97 0 = 0 := (show M20 97 0 = M19 97 0 by rw [hM20]; exact mu_ne _ _ (by first | decide | omega)).trans xM19_97_0
            have xM20_97_37 : M20 97 37 = a := (show M20 97 37 = M19 97 37 by rw [hM20]; exact mu_ne _ _ (by first | decide | omega)).trans xM19_97_37
            have xM20_97_38 : M20 97 38 = b := (show M20 97 38 = M19 97 38 by rw [hM20]; exact mu_ne _ _ (by first | decide | omega)).trans xM19_97_38
            have xM20_97_39 : M20 97 39 = c := (show M20 97 39 = M19 97 39 by rw [hM20]; exact mu_ne _ _ (by first | decide | omega)).trans xM19_97_39
            have xM20_97_40 : M20 97 40 = e := by rw [hM20]; exact mu_at _ _ _ _
            have e25M20 : E25 (M 101) (M20 101) := by rw [hM20, mu_cell _ _ (by decide)]; exact e25M19
            refine g_iconst (pc' := 82) dX10_reach_81 rfl ?_
            refine g_istore (pc' := 84) (L' := [(7, vi 0), (0, vr X 97), (1, vi a), (2, vi b), (3, vi c), (4, vi e), (5, vi j), (6, vi w)]) dX10_reach_82 rfl (by decide) rfl ?_
            refine g_aload_n (pc' := 85) 1 dX10_reach_84 rfl rfl ?_
            refine g_iconst (pc' := 86) dX10_reach_85 rfl ?_
            refine g_callVv (pc' := 89) (As := [vi 0]) (b := 97) (S := []) dX10_reach_86 rfl m_X10_371 w_X10_goThrough (c_X10_goThrough_x X M20 iM20 0 (by decide) (by omega) (by omega)) rfl ⟨_, _, _, rfl, rfl, rfl⟩ (by decide) (by decide) rfl (Nat.le_of_ble_eq_true rfl) (fun M22 q21 => ?_)
            obtain ⟨iM22, fM220, eM22_97_12, eM22_97_37, eM22_97_38, eM22_97_17, eM22_97_33, eM22_97_10, eM22_97_44, eM22_97_1, pM22⟩ := q21
            have fM22 : Fr (fun c => c = 97 ∨ c = 101 ∨ c = 104 ∨ c = 105 ∨ c = 113 ∨ c = 114) M M22 := Fr.tr fM20 fM220 (fun _ z => z)
            have q99_0_M22 : (M22 99 0 = M 99 0) := (congrFun (fM220 99 (by first | decide | omega | (dsimp only; omega))) 0).trans q99_0_M20
            have q99_1_M22 : (M22 99 1 = M 99 1) := (congrFun (fM220 99 (by first | decide | omega | (dsimp only; omega))) 1).trans q99_1_M20
            have q99_2_M22 : (M22 99 2 = M 99 2) := (congrFun (fM220 99 (by first | decide | omega | (dsimp only; omega))) 2).trans q99_2_M20
            have q99_3_M22 : (M22 99 3 = M 99 3) := (congrFun (fM220 99 (by first | decide | omega | (dsimp only; omega))) 3).trans q99_3_M20
            have q100_0_M22 : id (M22 100 0 = M 100 0) := (congrFun (fM220 100 (by first | decide | omega | (dsimp only; omega))) 0).trans q100_0_M20
            have q100_1_M22 : id (M22 100 1 = M 100 1) := (congrFun (fM220 100 (by first | decide | omega | (dsimp only; omega))) 1).trans q100_1_M20
            have q100_2_M22 : id (M22 100 2 = M 100 2) := (congrFun (fM220 100 (by first | decide | omega | (dsimp only; omega))) 2).trans q100_2_M20
            have q100_3_M22 : id (M22 100 3 = M 100 3) := (congrFun (fM220 100 (by first | decide | omega | (dsimp only; omega))) 3).trans q100_3_M20
            have q100_49_M22 : id (M22 100 49 = M 100 49) := (congrFun (fM220 100 (by first | decide | omega | (dsimp only; omega))) 49).trans q100_49_M20
            have q100_50_M22 : id (M22 100 50 = M 100 50) := (congrFun (fM220 100 (by first | decide | omega | (dsimp only; omega))) 50).trans q100_50_M20
            have q100_51_M22 : id (M22 100 51 = M 100 51) := (congrFun (fM220 100 (by first | decide | omega | (dsimp only; omega))) 51).trans q100_51_M20
            have q100_52_M22 : id (M22 100 52 = M 100 52) := (congrFun (fM220 100 (by first | decide | omega | (dsimp only; omega))) 52).trans q100_52_M20
            have q103_0_M22 : id (M22 103 0 = M 103 0) := (congrFun (fM220 103 (by first | decide | omega | (dsimp only; omega))) 0).trans q103_0_M20
            have q103_1_M22 : id (M22 103 1 = M 103 1) := (congrFun (fM220 103 (by first | decide | omega | (dsimp only; omega))) 1).trans q103_1_M20
            have q97_12_M22 : (M22 97 12 = M 97 12) := eM22_97_12.trans q97_12_M20
            have q97_17_M22 : (M22 97 17 = M 97 17) := eM22_97_17.trans q97_17_M20
            have q97_33_M22 : (M22 97 33 = M 97 33) := eM22_97_33.trans q97_33_M20
            have q97_10_M22 : (M22 97 10 = M 97 10) := eM22_97_10.trans q97_10_M20
            have q97_44_M22 : (M22 97 44 = M 97 44) := eM22_97_44.trans q97_44_M20
            have q97_1_M22 : (M22 97 1 = M 97 1) := eM22_97_1.trans q97_1_M20
            have xM22_97_37 : M22 97 37 = a := eM22_97_37.trans xM20_97_37
            have xM22_97_38 : M22 97 38 = b := eM22_97_38.trans xM20_97_38
            have e25M22 : E25 (M 101) (M22 101) := E25.tr e25M20 pM22
            refine g_sub [0, 1, 6, 7] rfl ?_
            exact l_X10_reach_x_89 X M hi a ha b hb c hc e he j hj w hw _ 0 M22 iM22 fM22 q99_0_M22 q99_1_M22 q99_2_M22 q99_3_M22 q100_0_M22 q100_1_M22 q100_2_M22 q100_3_M22 q100_49_M22 q100_50_M22 q100_51_M22 q100_52_M22 q103_0_M22 q103_1_M22 q97_12_M22 q97_17_M22 q97_33_M22 q97_10_M22 q97_44_M22 q97_1_M22 (by omega) (by omega) (by omega) (by omega) (by omega) (by omega) e25M22 rfl
          · replace q14 := q14.resolve_left (fun h => absurd (c16.symm.trans h.1) (by decide))
            refine g_iconst (pc' := 59) dX10_reach_58 rfl ?_
            refine g_ireturn dX10_reach_59 ?_
            exact ⟨iM1, fM1, q99_0_M1, q99_1_M1, q99_2_M1, q99_3_M1, q100_0_M1, q100_1_M1, q100_2_M1, q100_3_M1, q100_49_M1, q100_50_M1, q100_51_M1, q100_52_M1, q103_0_M1, q103_1_M1, q97_12_M1, q97_17_M1, q97_33_M1, q97_10_M1, q97_44_M1, q97_1_M1, by first | assumption | decide | omega, e25M1⟩
set_option maxHeartbeats 4000000 in
set_option maxRecDepth 100000 in
theorem c_X10_fits_x (X : Cx) (M : Mm) (hi : IM M) (n : Int) (hn : inI n) (j : Int) (hj : inI j) (w : Int) (hw : inI w) : Con X 14 yX10_fits cX10_fits 4 (some .int) [vr X 97, vi n, vi j, vi w] M (Qi (fun r M1 => IM M1 ∧ Fr (fun c => c = 97 ∨ c = 101 ∨ c = 104 ∨ c = 105 ∨ c = 113 ∨ c = 114) M M1 ∧ M1 99 0 = M 99 0 ∧ M1 99 1 = M 99 1 ∧ M1 99 2 = M 99 2 ∧ M1 99 3 = M 99 3 ∧ M1 100 0 = M 100 0 ∧ M1 100 1 = M 100 1 ∧ M1 100 2 = M 100 2 ∧ M1 100 3 = M 100 3 ∧ M1 100 49 = M 100 49 ∧ M1 100 50 = M 100 50 ∧ M1 100 51 = M 100 51 ∧ M1 100 52 = M 100 52 ∧ M1 103 0 = M 103 0 ∧ M1 103 1 = M 103 1 ∧ M1 97 12 = M 97 12 ∧ M1 97 17 = M 97 17 ∧ M1 97 33 = M 97 33 ∧ M1 97 10 = M 97 10 ∧ M1 97 44 = M 97 44 ∧ M1 97 1 = M 97 1 ∧ (inI r ∧ E25 (M 101) (M1 101)))) := by
  refine Con.ofG rfl (Nat.le_of_ble_eq_true rfl) ?_
  show G X 14 RX10 cX10_fits 4 (some .int) (Qi (fun r M1 => IM M1 ∧ Fr (fun c => c = 97 ∨ c = 101 ∨ c = 104 ∨ c = 105 ∨ c = 113 ∨ c = 114) M M1 ∧ M1 99 0 = M 99 0 ∧ M1 99 1 = M 99 1 ∧ M1 99 2 = M 99 2 ∧ M1 99 3 = M 99 3 ∧ M1 100 0 = M 100 0 ∧ M1 100 1 = M 100 1 ∧ M1 100 2 = M 100 2 ∧ M1 100 3 = M 100 3 ∧ M1 100 49 = M 100 49 ∧ M1 100 50 = M 100 50 ∧ M1 100 51 = M 100 51 ∧ M1 100 52 = M 100 52 ∧ M1 103 0 = M 103 0 ∧ M1 103 1 = M 103 1 ∧ M1 97 12 = M 97 12 ∧ M1 97 17 = M 97 17 ∧ M1 97 33 = M 97 33 ∧ M1 97 10 = M 97 10 ∧ M1 97 44 = M 97 44 ∧ M1 97 1 = M 97 1 ∧ (inI r ∧ E25 (M 101) (M1 101)))) 0 [(0, vr X 97), (1, vi n), (2, vi j), (3, vi w)] [] M
  have p0 := hi.1.1
  have p1 := hi.1.2.1
  have p2 := hi.1.2.2.1
  have p3 := hi.1.2.2.2.1
  have p12 := hi.2.2.2.1
  refine g_aload_n (pc' := 1) 0 dX10_fits_0 rfl rfl ?_
  refine g_iconst (pc' := 2) dX10_fits_1 rfl ?_
  refine g_putI (pc' := 5) dX10_fits_2 rfl p_X10_77 rfl rfl (by decide) (fun M1 hM1 => ?_)
  have iM1 : IM M1 := IM.wr hi hM1 (by unfold okv; first | decide | omega)
  have fM1 : Fr (fun c => c = 97 ∨ c = 101 ∨ c = 104 ∨ c = 105 ∨ c = 113 ∨ c = 114) M M1 := Fr.wr Fr.rf hM1 (by first | decide | omega | (dsimp only; omega))
  have q99_0_M1 : (M1 99 0 = M 99 0) := (show M1 99 0 = M 99 0 by rw [hM1]; exact mu_ne _ _ (by first | decide | omega))
  have q99_1_M1 : (M1 99 1 = M 99 1) := (show M1 99 1 = M 99 1 by rw [hM1]; exact mu_ne _ _ (by first | decide | omega))
  have q99_2_M1 : (M1 99 2 = M 99 2) := (show M1 99 2 = M 99 2 by rw [hM1]; exact mu_ne _ _ (by first | decide | omega))
  have q99_3_M1 : (M1 99 3 = M 99 3) := (show M1 99 3 = M 99 3 by rw [hM1]; exact mu_ne _ _ (by first | decide | omega))
  have q100_0_M1 : id (M1 100 0 = M 100 0) := (show M1 100 0 = M 100 0 by rw [hM1]; exact mu_ne _ _ (by first | decide | omega))
  have q100_1_M1 : id (M1 100 1 = M 100 1) := (show M1 100 1 = M 100 1 by rw [hM1]; exact mu_ne _ _ (by first | decide | omega))
  have q100_2_M1 : id (M1 100 2 = M 100 2) := (show M1 100 2 = M 100 2 by rw [hM1]; exact mu_ne _ _ (by first | decide | omega))
  have q100_3_M1 : id (M1 100 3 = M 100 3) := (show M1 100 3 = M 100 3 by rw [hM1]; exact mu_ne _ _ (by first | decide | omega))
  have q100_49_M1 : id (M1 100 49 = M 100 49) := (show M1 100 49 = M 100 49 by rw [hM1]; exact mu_ne _ _ (by first | decide | omega))
  have q100_50_M1 : id (M1 100 50 = M 100 50) := (show M1 100 50 = M 100 50 by rw [hM1]; exact mu_ne _ _ (by first | decide | omega))
  have q100_51_M1 : id (M1 100 51 = M 100 51) := (show M1 100 51 = M 100 51 by rw [hM1]; exact mu_ne _ _ (by first | decide | omega))
  have q100_52_M1 : id (M1 100 52 = M 100 52) := (show M1 100 52 = M 100 52 by rw [hM1]; exact mu_ne _ _ (by first | decide | omega))
  have q103_0_M1 : id (M1 103 0 = M 103 0) := (show M1 103 0 = M 103 0 by rw [hM1]; exact mu_ne _ _ (by first | decide | omega))
  have q103_1_M1 : id (M1 103 1 = M 103 1) := (show M1 103 1 = M 103 1 by rw [hM1]; exact mu_ne _ _ (by first | decide | omega))
  have q97_12_M1 : (M1 97 12 = M 97 12) := (show M1 97 12 = M 97 12 by rw [hM1]; exact mu_ne _ _ (by first | decide | omega))
  have q97_17_M1 : (M1 97 17 = M 97 17) := (show M1 97 17 = M 97 17 by rw [hM1]; exact mu_ne _ _ (by first | decide | omega))
  have q97_33_M1 : (M1 97 33 = M 97 33) := (show M1 97 33 = M 97 33 by rw [hM1]; exact mu_ne _ _ (by first | decide | omega))
  have q97_10_M1 : (M1 97 10 = M 97 10) := (show M1 97 10 = M 97 10 by rw [hM1]; exact mu_ne _ _ (by first | decide | omega))
  have q97_44_M1 : (M1 97 44 = M 97 44) := (show M1 97 44 = M 97 44 by rw [hM1]; exact mu_ne _ _ (by first | decide | omega))
  have q97_1_M1 : (M1 97 1 = M 97 1) := (show M1 97 1 = M 97 1 by rw [hM1]; exact mu_ne _ _ (by first | decide | omega))
  have xM1_97_0 : M1 97 0 = 0 := by rw [hM1]; exact mu_at _ _ _ _
  have e25M1 : E25 (M 101) (M1 101) := by rw [hM1, mu_cell _ _ (by decide)]; exact (E25.rf (M 101))
  refine g_iload_n (pc' := 6) 1 dX10_fits_5 rfl rfl ?_
  refine g_i2l (pc' := 7) hn dX10_fits_6 rfl ?_
  refine g_lconst (pc' := 8) (v := 0) dX10_fits_7 rfl (by decide) ?_
  refine g_ldc2 (pc' := 11) (v := 3) dX10_fits_8 rfl k_X10_91 ?_
  refine g_callSip (pc' := 14) (As := [vl n, vl 0, vl 3]) (S := []) dX10_fits_11 rfl m_X10_83 w_X10_in (c_X10_in X M1 n ⟨by omega, by omega⟩ 0 (by decide) 3 (by decide)) rfl (by decide) (by decide) rfl (Nat.le_of_ble_eq_true rfl) (fun z3 q2 => ?_)
  refine g_if_eq (pc' := 17) (tgt := 29) ⟨by omega, by omega⟩ dX10_fits_14 rfl rfl (fun c4 => ?_) (fun c4 => ?_)
  · replace q2 := q2.resolve_left (fun h => absurd (c4.symm.trans h.1) (by decide))
    refine g_iconst (pc' := 30) dX10_fits_29 rfl ?_
    refine g_ireturn dX10_fits_30 ?_
    exact ⟨iM1, fM1, q99_0_M1, q99_1_M1, q99_2_M1, q99_3_M1, q100_0_M1, q100_1_M1, q100_2_M1, q100_3_M1, q100_49_M1, q100_50_M1, q100_51_M1, q100_52_M1, q103_0_M1, q103_1_M1, q97_12_M1, q97_17_M1, q97_33_M1, q97_10_M1, q97_44_M1, q97_1_M1, by first | assumption | decide | omega, e25M1⟩
  · replace q2 := q2.resolve_right (fun h => c4 h.1)
    refine g_iload_n (pc' := 18) 3 dX10_fits_17 rfl rfl ?_
    refine g_i2l (pc' := 19) hw dX10_fits_18 rfl ?_
    refine g_lconst (pc' := 20) (v := 0) dX10_fits_19 rfl (by decide) ?_
    refine g_ldc2 (pc' := 23) (v := 2) dX10_fits_20 rfl k_X10_369 ?_
    refine g_callSip (pc' := 26) (As := [vl w, vl 0, vl 2]) (S := []) dX10_fits_23 rfl m_X10_83 w_X10_in (c_X10_in X M1 w ⟨by omega, by omega⟩ 0 (by decide) 2 (by decide)) rfl (by decide) (by decide) rfl (Nat.le_of_ble_eq_true rfl) (fun z6 q5 => ?_)
    refine g_if_ne (pc' := 29) (tgt := 31) ⟨by omega, by omega⟩ dX10_fits_26 rfl rfl (fun c7 => ?_) (fun c7 => ?_)
    · replace q5 := q5.resolve_right (fun h => c7 h.1)
      refine g_aload_n (pc' := 32) 0 dX10_fits_31 rfl rfl ?_
      refine g_iconst (pc' := 33) dX10_fits_32 rfl ?_
      refine g_putI (pc' := 36) dX10_fits_33 rfl p_X10_345 rfl rfl (by decide) (fun M8 hM8 => ?_)
      have iM8 : IM M8 := IM.wr iM1 hM8 (by unfold okv; first | decide | omega)
      have fM8 : Fr (fun c => c = 97 ∨ c = 101 ∨ c = 104 ∨ c = 105 ∨ c = 113 ∨ c = 114) M M8 := Fr.wr fM1 hM8 (by first | decide | omega | (dsimp only; omega))
      have q99_0_M8 : (M8 99 0 = M 99 0) := (show M8 99 0 = M1 99 0 by rw [hM8]; exact mu_ne _ _ (by first | decide | omega)).trans q99_0_M1
      have q99_1_M8 : (M8 99 1 = M 99 1) := (show M8 99 1 = M1 99 1 by rw [hM8]; exact mu_ne _ _ (by first | decide | omega)).trans q99_1_M1
      have q99_2_M8 : (M8 99 2 = M 99 2) := (show M8 99 2 = M1 99 2 by rw [hM8]; exact mu_ne _ _ (by first | decide | omega)).trans q99_2_M1
      have q99_3_M8 : (M8 99 3 = M 99 3) := (show M8 99 3 = M1 99 3 by rw [hM8]; exact mu_ne _ _ (by first | decide | omega)).trans q99_3_M1
      have q100_0_M8 : id (M8 100 0 = M 100 0) := (show M8 100 0 = M1 100 0 by rw [hM8]; exact mu_ne _ _ (by first | decide | omega)).trans q100_0_M1
      have q100_1_M8 : id (M8 100 1 = M 100 1) := (show M8 100 1 = M1 100 1 by rw [hM8]; exact mu_ne _ _ (by first | decide | omega)).trans q100_1_M1
      have q100_2_M8 : id (M8 100 2 = M 100 2) := (show M8 100 2 = M1 100 2 by rw [hM8]; exact mu_ne _ _ (by first | decide | omega)).trans q100_2_M1
      have q100_3_M8 : id (M8 100 3 = M 100 3) := (show M8 100 3 = M1 100 3 by rw [hM8]; exact mu_ne _ _ (by first | decide | omega)).trans q100_3_M1
      have q100_49_M8 : id (M8 100 49 = M 100 49) := (show M8 100 49 = M1 100 49 by rw [hM8]; exact mu_ne _ _ (by first | decide | omega)).trans q100_49_M1
      have q100_50_M8 : id (M8 100 50 = M 100 50) := (show M8 100 50 = M1 100 50 by rw [hM8]; exact mu_ne _ _ (by first | decide | omega)).trans q100_50_M1
      have q100_51_M8 : id (M8 100 51 = M 100 51) := (show M8 100 51 = M1 100 51 by rw [hM8]; exact mu_ne _ _ (by first | decide | omega)).trans q100_51_M1
      have q100_52_M8 : id (M8 100 52 = M 100 52) := (show M8 100 52 = M1 100 52 by rw [hM8]; exact mu_ne _ _ (by first | decide | omega)).trans q100_52_M1
      have q103_0_M8 : id (M8 103 0 = M 103 0) := (show M8 103 0 = M1 103 0 by rw [hM8]; exact mu_ne _ _ (by first | decide | omega)).trans q103_0_M1
      have q103_1_M8 : id (M8 103 1 = M 103 1) := (show M8 103 1 = M1 103 1 by rw [hM8]; exact mu_ne _ _ (by first | decide | omega)).trans q103_1_M1
      have q97_12_M8 : (M8 97 12 = M 97 12) := (show M8 97 12 = M1 97 12 by rw [hM8]; exact mu_ne _ _ (by first | decide | omega)).trans q97_12_M1
      have q97_17_M8 : (M8 97 17 = M 97 17) := (show M8 97 17 = M1 97 17 by rw [hM8]; exact mu_ne _ _ (by first | decide | omega)).trans q97_17_M1
      have q97_33_M8 : (M8 97 33 = M 97 33) := (show M8 97 33 = M1 97 33 by rw [hM8]; exact mu_ne _ _ (by first | decide | omega)).trans q97_33_M1
      have q97_10_M8 : (M8 97 10 = M 97 10) := (show M8 97 10 = M1 97 10 by rw [hM8]; exact mu_ne _ _ (by first | decide | omega)).trans q97_10_M1
      have q97_44_M8 : (M8 97 44 = M 97 44) := (show M8 97 44 = M1 97 44 by rw [hM8]; exact mu_ne _ _ (by first | decide | omega)).trans q97_44_M1
      have q97_1_M8 : (M8 97 1 = M 97 1) := (show M8 97 1 = M1 97 1 by rw [hM8]; exact mu_ne _ _ (by first | decide | omega)).trans q97_1_M1
      have xM8_97_0 : M8 97 0 = 0 := (show M8 97 0 = M1 97 0 by rw [hM8]; exact mu_ne _ _ (by first | decide | omega)).trans xM1_97_0
      have xM8_97_37 : M8 97 37 = (-1) := by rw [hM8]; exact mu_at _ _ _ _
      have e25M8 : E25 (M 101) (M8 101) := by rw [hM8, mu_cell _ _ (by decide)]; exact e25M1
      refine g_aload_n (pc' := 37) 0 dX10_fits_36 rfl rfl ?_
      refine g_iload_n (pc' := 38) 1 dX10_fits_37 rfl rfl ?_
      refine g_callVv (pc' := 41) (As := [vi n]) (b := 97) (S := []) dX10_fits_38 rfl m_X10_371 w_X10_goThrough (c_X10_goThrough_x X M8 iM8 n hn (by omega) (by omega)) rfl ⟨_, _, _, rfl, rfl, rfl⟩ (by decide) (by decide) rfl (Nat.le_of_ble_eq_true rfl) (fun M10 q9 => ?_)
      obtain ⟨iM10, fM100, eM10_97_12, eM10_97_37, eM10_97_38, eM10_97_17, eM10_97_33, eM10_97_10, eM10_97_44, eM10_97_1, pM10⟩ := q9
      have fM10 : Fr (fun c => c = 97 ∨ c = 101 ∨ c = 104 ∨ c = 105 ∨ c = 113 ∨ c = 114) M M10 := Fr.tr fM8 fM100 (fun _ z => z)
      have q99_0_M10 : (M10 99 0 = M 99 0) := (congrFun (fM100 99 (by first | decide | omega | (dsimp only; omega))) 0).trans q99_0_M8
      have q99_1_M10 : (M10 99 1 = M 99 1) := (congrFun (fM100 99 (by first | decide | omega | (dsimp only; omega))) 1).trans q99_1_M8
      have q99_2_M10 : (M10 99 2 = M 99 2) := (congrFun (fM100 99 (by first | decide | omega | (dsimp only; omega))) 2).trans q99_2_M8
      have q99_3_M10 : (M10 99 3 = M 99 3) := (congrFun (fM100 99 (by first | decide | omega | (dsimp only; omega))) 3).trans q99_3_M8
      have q100_0_M10 : id (M10 100 0 = M 100 0) := (congrFun (fM100 100 (by first | decide | omega | (dsimp only; omega))) 0).trans q100_0_M8
      have q100_1_M10 : id (M10 100 1 = M 100 1) := (congrFun (fM100 100 (by first | decide | omega | (dsimp only; omega))) 1).trans q100_1_M8
      have q100_2_M10 : id (M10 100 2 = M 100 2) := (congrFun (fM100 100 (by first | decide | omega | (dsimp only; omega))) 2).trans q100_2_M8
      have q100_3_M10 : id (M10 100 3 = M 100 3) := (congrFun (fM100 100 (by first | decide | omega | (dsimp only; omega))) 3).trans q100_3_M8
      have q100_49_M10 : id (M10 100 49 = M 100 49) := (congrFun (fM100 100 (by first | decide | omega | (dsimp only; omega))) 49).trans q100_49_M8
      have q100_50_M10 : id (M10 100 50 = M 100 50) := (congrFun (fM100 100 (by first | decide | omega | (dsimp only; omega))) 50).trans q100_50_M8
      have q100_51_M10 : id (M10 100 51 = M 100 51) := (congrFun (fM100 100 (by first | decide | omega | (dsimp only; omega))) 51).trans q100_51_M8
      have q100_52_M10 : id (M10 100 52 = M 100 52) := (congrFun (fM100 100 (by first | decide | omega | (dsimp only; omega))) 52).trans q100_52_M8
      have q103_0_M10 : id (M10 103 0 = M 103 0) := (congrFun (fM100 103 (by first | decide | omega | (dsimp only; omega))) 0).trans q103_0_M8
      have q103_1_M10 : id (M10 103 1 = M 103 1) := (congrFun (fM100 103 (by first | decide | omega | (dsimp only; omega))) 1).trans q103_1_M8
      have q97_12_M10 : (M10 97 12 = M 97 12) := eM10_97_12.trans q97_12_M8
      have q97_17_M10 : (M10 97 17 = M 97 17) := eM10_97_17.trans q97_17_M8
      have q97_33_M10 : (M10 97 33 = M 97 33) := eM10_97_33.trans q97_33_M8
      have q97_10_M10 : (M10 97 10 = M 97 10) := eM10_97_10.trans q97_10_M8
      have q97_44_M10 : (M10 97 44 = M 97 44) := eM10_97_44.trans q97_44_M8
      have q97_1_M10 : (M10 97 1 = M 97 1) := eM10_97_1.trans q97_1_M8
      have xM10_97_37 : M10 97 37 = (-1) := eM10_97_37.trans xM8_97_37
      have e25M10 : E25 (M 101) (M10 101) := E25.tr e25M8 pM10
      refine g_iload_n (pc' := 42) 2 dX10_fits_41 rfl rfl ?_
      refine g_iconst (pc' := 43) dX10_fits_42 rfl ?_
      refine g_ic_ne (pc' := 46) (tgt := 53) hj (by decide) dX10_fits_43 rfl rfl (fun c11 => ?_) (fun c11 => ?_)
      · refine g_aload_n (pc' := 54) 0 dX10_fits_53 rfl rfl ?_
        refine g_getI (pc' := 57) dX10_fits_54 rfl f_X10_357 rfl rfl (fun v12 ev12 rv12 => ?_)
        refine g_if_le (pc' := 60) (tgt := 82) rv12 dX10_fits_57 rfl rfl (fun c13 => ?_) (fun c13 => ?_)
        · refine g_iconst (pc' := 83) dX10_fits_82 rfl ?_
          refine g_ireturn dX10_fits_83 ?_
          exact ⟨iM10, fM10, q99_0_M10, q99_1_M10, q99_2_M10, q99_3_M10, q100_0_M10, q100_1_M10, q100_2_M10, q100_3_M10, q100_49_M10, q100_50_M10, q100_51_M10, q100_52_M10, q103_0_M10, q103_1_M10, q97_12_M10, q97_17_M10, q97_33_M10, q97_10_M10, q97_44_M10, q97_1_M10, by first | assumption | decide | omega, e25M10⟩
        · refine g_iload_n (pc' := 61) 2 dX10_fits_60 rfl rfl ?_
          refine g_i2l (pc' := 62) hj dX10_fits_61 rfl ?_
          refine g_lconst (pc' := 63) (v := 0) dX10_fits_62 rfl (by decide) ?_
          refine g_iload_n (pc' := 64) 1 dX10_fits_63 rfl rfl ?_
          refine g_i2l (pc' := 65) hn dX10_fits_64 rfl ?_
          refine g_lconst (pc' := 66) (v := 1) dX10_fits_65 rfl (by decide) ?_
          refine g_lsub (pc' := 67) dX10_fits_66 rfl ?_
          refine g_callSip (pc' := 70) (As := [vl j, vl 0, vl (n - 1)]) (S := []) dX10_fits_67 rfl m_X10_83 w_X10_in (c_X10_in X M10 j ⟨by omega, by omega⟩ 0 (by decide) (n - 1) ⟨by omega, by omega⟩) rfl (by decide) (by decide) rfl (Nat.le_of_ble_eq_true rfl) (fun z15 q14 => ?_)
          refine g_if_eq (pc' := 73) (tgt := 82) ⟨by omega, by omega⟩ dX10_fits_70 rfl rfl (fun c16 => ?_) (fun c16 => ?_)
          · replace q14 := q14.resolve_left (fun h => absurd (c16.symm.trans h.1) (by decide))
            refine g_iconst (pc' := 83) dX10_fits_82 rfl ?_
            refine g_ireturn dX10_fits_83 ?_
            exact ⟨iM10, fM10, q99_0_M10, q99_1_M10, q99_2_M10, q99_3_M10, q100_0_M10, q100_1_M10, q100_2_M10, q100_3_M10, q100_49_M10, q100_50_M10, q100_51_M10, q100_52_M10, q103_0_M10, q103_1_M10, q97_12_M10, q97_17_M10, q97_33_M10, q97_10_M10, q97_44_M10, q97_1_M10, by first | assumption | decide | omega, e25M10⟩
          · replace q14 := q14.resolve_right (fun h => c16 h.1)
            refine g_aload_n (pc' := 74) 0 dX10_fits_73 rfl rfl ?_
            refine g_iload_n (pc' := 75) 2 dX10_fits_74 rfl rfl ?_
            refine g_iload_n (pc' := 76) 3 dX10_fits_75 rfl rfl ?_
            refine g_callVip (pc' := 79) (As := [vi j, vi w]) (b := 97) (S := []) dX10_fits_76 rfl m_X10_374 w_X10_ofMove (c_X10_ofMove X M10 iM10 j hj w hw (by omega)) rfl ⟨_, _, _, rfl, rfl, rfl⟩ (by decide) (by decide) rfl (Nat.le_of_ble_eq_true rfl) (fun z18 q17 => ?_)
            refine g_goto (tgt := 83) dX10_fits_79 rfl ?_
            refine g_ireturn dX10_fits_83 ?_
            exact ⟨iM10, fM10, q99_0_M10, q99_1_M10, q99_2_M10, q99_3_M10, q100_0_M10, q100_1_M10, q100_2_M10, q100_3_M10, q100_49_M10, q100_50_M10, q100_51_M10, q100_52_M10, q103_0_M10, q103_1_M10, q97_12_M10, q97_17_M10, q97_33_M10, q97_10_M10, q97_44_M10, q97_1_M10, by first | assumption | decide | omega, e25M10⟩
      · refine g_aload_n (pc' := 47) 0 dX10_fits_46 rfl rfl ?_
        refine g_getI (pc' := 50) dX10_fits_47 rfl f_X10_357 rfl rfl (fun v19 ev19 rv19 => ?_)
        refine g_goto (tgt := 83) dX10_fits_50 rfl ?_
        refine g_ireturn dX10_fits_83 ?_
        exact ⟨iM10, fM10, q99_0_M10, q99_1_M10, q99_2_M10, q99_3_M10, q100_0_M10, q100_1_M10, q100_2_M10, q100_3_M10, q100_49_M10, q100_50_M10, q100_51_M10, q100_52_M10, q103_0_M10, q103_1_M10, q97_12_M10, q97_17_M10, q97_33_M10, q97_10_M10, q97_44_M10, q97_1_M10, by first | assumption | decide | omega, e25M10⟩
    · replace q5 := q5.resolve_left (fun h => absurd (c7.symm.trans h.1) (by decide))
      refine g_iconst (pc' := 30) dX10_fits_29 rfl ?_
      refine g_ireturn dX10_fits_30 ?_
      exact ⟨iM1, fM1, q99_0_M1, q99_1_M1, q99_2_M1, q99_3_M1, q100_0_M1, q100_1_M1, q100_2_M1, q100_3_M1, q100_49_M1, q100_50_M1, q100_51_M1, q100_52_M1, q103_0_M1, q103_1_M1, q97_12_M1, q97_17_M1, q97_33_M1, q97_10_M1, q97_44_M1, q97_1_M1, by first | assumption | decide | omega, e25M1⟩
