set_option maxHeartbeats 4000000 in
set_option maxRecDepth 100000 in
theorem c_X10_partOf (X : Cx) (M : Mm) (hi : IM M) (op : Int) (hop : inI op) (ag : Int) (hag : inI ag) (hop5 : 1 ≤ op ∧ op ≤ 4) (hag2 : 0 ≤ ag ∧ ag ≤ 23) : Con X 2 yX10_partOf cX10_partOf 4 (some .long) [vr X 97, vi op, vi ag] M (Ql (fun r M1 => M1 = M ∧ (inL r))) := by
  refine Con.ofG rfl (Nat.le_of_ble_eq_true rfl) ?_
  show G X 2 RX10 cX10_partOf 4 (some .long) (Ql (fun r M1 => M1 = M ∧ (inL r))) 0 [(0, vr X 97), (1, vi op), (2, vi ag)] [] M
  have p0 := hi.1.1
  have p1 := hi.1.2.1
  have p2 := hi.1.2.2.1
  have p3 := hi.1.2.2.2.1
  have p12 := hi.2.2.2.1
  refine g_iload_n (pc' := 1) 2 dX10_partOf_0 rfl rfl ?_
  refine g_bipush (pc' := 3) (v := 6) dX10_partOf_1 rfl (by decide) ?_
  refine g_iremP (pc' := 4) hag (by decide) (by omega) (by omega) dX10_partOf_3 rfl ?_
  obtain ⟨x1, ex1⟩ : ∃ z : Int, z = ag % 6 := ⟨_, rfl⟩
  rw [← ex1]
  refine g_istore_n (pc' := 5) (i := 3) (L' := [(3, vi x1), (0, vr X 97), (1, vi op), (2, vi ag)]) dX10_partOf_4 rfl rfl (by decide) rfl ?_
  refine g_iload_n (pc' := 6) 2 dX10_partOf_5 rfl rfl ?_
  refine g_iconst (pc' := 7) dX10_partOf_6 rfl ?_
  refine g_ic_ne (pc' := 10) (tgt := 18) hop (by decide) dX10_partOf_7 rfl rfl (fun c2 => ?_) (fun c2 => ?_)
  · refine g_aload_n (pc' := 19) 1 dX10_partOf_18 rfl rfl ?_
    refine g_iload_n (pc' := 20) 0 dX10_partOf_19 rfl rfl ?_
    refine g_callVip (pc' := 23) (As := [vi x1]) (b := 97) (S := []) dX10_partOf_20 rfl m_X10_102 w_X10_isGlass (c_X10_isGlass X M hi x1 ⟨by omega, by omega⟩) rfl ⟨_, _, _, rfl, rfl, rfl⟩ (by decide) (by decide) rfl (Nat.le_of_ble_eq_true rfl) (fun z4 q3 => ?_)
    refine g_if_ne (pc' := 26) (tgt := 30) ⟨by omega, by omega⟩ dX10_partOf_23 rfl rfl (fun c5 => ?_) (fun c5 => ?_)
    · replace q3 := q3.resolve_right (fun h => c5 h.1)
      refine g_iload_n (pc' := 31) 2 dX10_partOf_30 rfl rfl ?_
      refine g_iconst (pc' := 32) dX10_partOf_31 rfl ?_
      refine g_ic_ne (pc' := 35) (tgt := 44) hop (by decide) dX10_partOf_32 rfl rfl (fun c6 => ?_) (fun c6 => ?_)
      · refine g_iload_n (pc' := 45) 2 dX10_partOf_44 rfl rfl ?_
        refine g_iconst (pc' := 46) dX10_partOf_45 rfl ?_
        refine g_ic_ne (pc' := 49) (tgt := 61) hop (by decide) dX10_partOf_46 rfl rfl (fun c7 => ?_) (fun c7 => ?_)
        · refine g_aload_n (pc' := 62) 1 dX10_partOf_61 rfl rfl ?_
          refine g_iload_n (pc' := 63) 0 dX10_partOf_62 rfl rfl ?_
          refine g_iload_n (pc' := 64) 3 dX10_partOf_63 rfl rfl ?_
          refine g_bipush (pc' := 66) (v := 6) dX10_partOf_64 rfl (by decide) ?_
          refine g_idivP (pc' := 67) hag (by decide) (by omega) (by omega) dX10_partOf_66 rfl ?_
          refine g_callVip (pc' := 70) (As := [vi x1, vi (ag / 6)]) (b := 97) (S := []) dX10_partOf_67 rfl m_X10_112 w_X10_tasteOf (c_X10_tasteOf X M hi x1 ⟨by omega, by omega⟩ (ag / 6) ⟨by omega, by omega⟩ (by omega) (by omega)) rfl ⟨_, _, _, rfl, rfl, rfl⟩ (by decide) (by decide) rfl (Nat.le_of_ble_eq_true rfl) (fun z9 q8 => ?_)
          refine g_i2l (pc' := 71) ⟨by omega, by omega⟩ dX10_partOf_70 rfl ?_
          refine g_lreturn dX10_partOf_71 ?_
          exact ⟨rfl, by omega⟩
        · refine g_aload_n (pc' := 50) 1 dX10_partOf_49 rfl rfl ?_
          refine g_getR (pc' := 53) dX10_partOf_50 rfl f_X10_13 rfl rfl ?_
          refine g_iconst (pc' := 54) dX10_partOf_53 rfl ?_
          refine g_iload_n (pc' := 55) 0 dX10_partOf_54 rfl rfl ?_
          refine g_iadd (pc' := 56) dX10_partOf_55 rfl ?_
          refine g_iald (pc' := 57) dX10_partOf_56 rfl rfl (by omega) (by omega) (fun v10 ev10 rv10 => ?_)
          have dv10 : 0 ≤ v10 ∧ v10 ≤ 60 := by rw [ev10]; exact hi.1.sz (by omega) (by omega)
          refine g_i2l (pc' := 58) rv10 dX10_partOf_57 rfl ?_
          refine g_goto (tgt := 71) dX10_partOf_58 rfl ?_
          refine g_lreturn dX10_partOf_71 ?_
          exact ⟨rfl, by omega⟩
      · refine g_aload_n (pc' := 36) 1 dX10_partOf_35 rfl rfl ?_
        refine g_iload_n (pc' := 37) 0 dX10_partOf_36 rfl rfl ?_
        refine g_callVip (pc' := 40) (As := [vi x1]) (b := 97) (S := []) dX10_partOf_37 rfl m_X10_99 w_X10_full (c_X10_full X M hi x1 ⟨by omega, by omega⟩ ⟨by omega, by omega⟩) rfl ⟨_, _, _, rfl, rfl, rfl⟩ (by decide) (by decide) rfl (Nat.le_of_ble_eq_true rfl) (fun z12 q11 => ?_)
        refine g_i2l (pc' := 41) ⟨by omega, by omega⟩ dX10_partOf_40 rfl ?_
        refine g_goto (tgt := 71) dX10_partOf_41 rfl ?_
        refine g_lreturn dX10_partOf_71 ?_
        exact ⟨rfl, by omega⟩
    · replace q3 := q3.resolve_left (fun h => absurd (c5.symm.trans h.1) (by decide))
      refine g_lconst (pc' := 27) (v := 0) dX10_partOf_26 rfl (by decide) ?_
      refine g_goto (tgt := 71) dX10_partOf_27 rfl ?_
      refine g_lreturn dX10_partOf_71 ?_
      exact ⟨rfl, by omega⟩
  · refine g_aload_n (pc' := 11) 1 dX10_partOf_10 rfl rfl ?_
    refine g_getI (pc' := 14) dX10_partOf_11 rfl f_X10_298 rfl rfl (fun v13 ev13 rv13 => ?_)
    refine g_i2l (pc' := 15) rv13 dX10_partOf_14 rfl ?_
    refine g_goto (tgt := 71) dX10_partOf_15 rfl ?_
    refine g_lreturn dX10_partOf_71 ?_
    exact ⟨rfl, by omega⟩
set_option maxHeartbeats 4000000 in
set_option maxRecDepth 100000 in
theorem c_X10_reckon (X : Cx) (M : Mm) (hi : IM M) (op : Int) (hop : inI op) (a : Int) (ha : inL a) (b : Int) (hb : inL b) : Con X 0 yX10_reckon cX10_reckon 6 (some .long) [vr X 97, vi op, vl a, vl b] M (Ql (fun r M1 => IM M1 ∧ Fr (fun c => c = 97) M M1 ∧ M1 97 12 = M 97 12 ∧ M1 97 19 = M 97 19 ∧ M1 97 21 = M 97 21 ∧ M1 97 32 = M 97 32 ∧ (inL r))) := by
  refine Con.ofG rfl (Nat.le_of_ble_eq_true rfl) ?_
  show G X 0 RX10 cX10_reckon 6 (some .long) (Ql (fun r M1 => IM M1 ∧ Fr (fun c => c = 97) M M1 ∧ M1 97 12 = M 97 12 ∧ M1 97 19 = M 97 19 ∧ M1 97 21 = M 97 21 ∧ M1 97 32 = M 97 32 ∧ (inL r))) 0 [(0, vr X 97), (1, vi op), (2, vl a), (4, vl b)] [] M
  refine g_iload_n (pc' := 1) 1 dX10_reckon_0 rfl rfl ?_
  by_cases c1 : op = 20
  · refine g_tabIn (tgt := 40) (off := 39) hop dX10_reckon_1 (by omega) (by omega) (by rw [c1]; rfl) rfl ?_
    refine g_lload_n (pc' := 41) 2 dX10_reckon_40 rfl rfl ?_
    refine g_lload (pc' := 43) 3 dX10_reckon_41 rfl rfl ?_
    refine g_ladd (pc' := 44) dX10_reckon_43 rfl ?_
    refine g_nrmL (fun n2 rn2 en2 => ?_)
    refine g_lreturn dX10_reckon_44 ?_
    exact ⟨hi, Fr.rf, rfl, rfl, rfl, rfl, by first | assumption | decide | omega⟩
  by_cases c3 : op = 21
  · refine g_tabIn (tgt := 45) (off := 44) hop dX10_reckon_1 (by omega) (by omega) (by rw [c3]; rfl) rfl ?_
    refine g_lload_n (pc' := 46) 2 dX10_reckon_45 rfl rfl ?_
    refine g_lload (pc' := 48) 3 dX10_reckon_46 rfl rfl ?_
    refine g_lsub (pc' := 49) dX10_reckon_48 rfl ?_
    refine g_nrmL (fun n4 rn4 en4 => ?_)
    refine g_lreturn dX10_reckon_49 ?_
    exact ⟨hi, Fr.rf, rfl, rfl, rfl, rfl, by first | assumption | decide | omega⟩
  by_cases c5 : op = 22
  · refine g_tabIn (tgt := 50) (off := 49) hop dX10_reckon_1 (by omega) (by omega) (by rw [c5]; rfl) rfl ?_
    refine g_lload_n (pc' := 51) 2 dX10_reckon_50 rfl rfl ?_
    refine g_lload (pc' := 53) 3 dX10_reckon_51 rfl rfl ?_
    refine g_lmul (pc' := 54) dX10_reckon_53 rfl ?_
    refine g_nrmL (fun n6 rn6 en6 => ?_)
    refine g_lreturn dX10_reckon_54 ?_
    exact ⟨hi, Fr.rf, rfl, rfl, rfl, rfl, by first | assumption | decide | omega⟩
  by_cases c7 : op = 23
  · refine g_tabIn (tgt := 55) (off := 54) hop dX10_reckon_1 (by omega) (by omega) (by rw [c7]; rfl) rfl ?_
    refine g_aload_n (pc' := 56) 0 dX10_reckon_55 rfl rfl ?_
    refine g_lload (pc' := 58) 3 dX10_reckon_56 rfl rfl ?_
    refine g_lconst (pc' := 59) (v := 0) dX10_reckon_58 rfl (by decide) ?_
    refine g_lc_ne (pc' := 63) (tgt := 67) hb (by decide) dX10_reckon_59 dX10_reckon_60 rfl rfl (fun c8 => ?_) (fun c8 => ?_)
    · refine g_iconst (pc' := 68) dX10_reckon_67 rfl ?_
      refine g_putZ (pc' := 71) dX10_reckon_68 rfl p_X10_301 rfl rfl (by omega) (fun M9 hM9 => ?_)
      have iM9 : IM M9 := IM.wr hi hM9 (by unfold okv; first | decide | omega)
      have fM9 : Fr (fun c => c = 97) M M9 := Fr.wr Fr.rf hM9 (by first | decide | omega | (dsimp only; omega))
      have q97_12_M9 : (M9 97 12 = M 97 12) := (show M9 97 12 = M 97 12 by rw [hM9]; exact mu_ne _ _ (by first | decide | omega))
      have q97_19_M9 : (M9 97 19 = M 97 19) := (show M9 97 19 = M 97 19 by rw [hM9]; exact mu_ne _ _ (by first | decide | omega))
      have q97_21_M9 : (M9 97 21 = M 97 21) := (show M9 97 21 = M 97 21 by rw [hM9]; exact mu_ne _ _ (by first | decide | omega))
      have q97_32_M9 : (M9 97 32 = M 97 32) := (show M9 97 32 = M 97 32 by rw [hM9]; exact mu_ne _ _ (by first | decide | omega))
      have xM9_97_30 : M9 97 30 = 0 := by rw [hM9]; exact mu_at _ _ _ _
      refine g_aload_n (pc' := 72) 0 dX10_reckon_71 rfl rfl ?_
      refine g_getI (pc' := 75) dX10_reckon_72 rfl f_X10_301 rfl rfl (fun v10 ev10 rv10 => ?_)
      have yv10 : v10 = 0 := ev10.trans xM9_97_30
      refine g_if_eq (pc' := 78) (tgt := 82) rv10 dX10_reckon_75 rfl rfl (fun c11 => ?_) (fun c11 => ?_)
      · refine g_lload_n (pc' := 83) 2 dX10_reckon_82 rfl rfl ?_
        refine g_lload (pc' := 85) 3 dX10_reckon_83 rfl rfl ?_
        refine g_ldiv (pc' := 86) ha hb (by omega) dX10_reckon_85 rfl ?_
        refine g_nrmL (fun n12 rn12 en12 => ?_)
        refine g_lreturn dX10_reckon_86 ?_
        exact ⟨iM9, fM9, q97_12_M9, q97_19_M9, q97_21_M9, q97_32_M9, by first | assumption | decide | omega⟩
      · refine g_lconst (pc' := 79) (v := 0) dX10_reckon_78 rfl (by decide) ?_
        refine g_goto (tgt := 86) dX10_reckon_79 rfl ?_
        refine g_lreturn dX10_reckon_86 ?_
        exact ⟨iM9, fM9, q97_12_M9, q97_19_M9, q97_21_M9, q97_32_M9, by first | assumption | decide | omega⟩
    · refine g_iconst (pc' := 64) dX10_reckon_63 rfl ?_
      refine g_goto (tgt := 68) dX10_reckon_64 rfl ?_
      refine g_putZ (pc' := 71) dX10_reckon_68 rfl p_X10_301 rfl rfl (by omega) (fun M13 hM13 => ?_)
      have iM13 : IM M13 := IM.wr hi hM13 (by unfold okv; first | decide | omega)
      have fM13 : Fr (fun c => c = 97) M M13 := Fr.wr Fr.rf hM13 (by first | decide | omega | (dsimp only; omega))
      have q97_12_M13 : (M13 97 12 = M 97 12) := (show M13 97 12 = M 97 12 by rw [hM13]; exact mu_ne _ _ (by first | decide | omega))
      have q97_19_M13 : (M13 97 19 = M 97 19) := (show M13 97 19 = M 97 19 by rw [hM13]; exact mu_ne _ _ (by first | decide | omega))
      have q97_21_M13 : (M13 97 21 = M 97 21) := (show M13 97 21 = M 97 21 by rw [hM13]; exact mu_ne _ _ (by first | decide | omega))
      have q97_32_M13 : (M13 97 32 = M 97 32) := (show M13 97 32 = M 97 32 by rw [hM13]; exact mu_ne _ _ (by first | decide | omega))
      have xM13_97_30 : M13 97 30 = 1 := by rw [hM13]; exact mu_at _ _ _ _
      refine g_aload_n (pc' := 72) 0 dX10_reckon_71 rfl rfl ?_
      refine g_getI (pc' := 75) dX10_reckon_72 rfl f_X10_301 rfl rfl (fun v14 ev14 rv14 => ?_)
      have yv14 : v14 = 1 := ev14.trans xM13_97_30
      refine g_if_eq (pc' := 78) (tgt := 82) rv14 dX10_reckon_75 rfl rfl (fun c15 => ?_) (fun c15 => ?_)
      · refine g_lload_n (pc' := 83) 2 dX10_reckon_82 rfl rfl ?_
        refine g_lload (pc' := 85) 3 dX10_reckon_83 rfl rfl ?_
        refine g_ldiv (pc' := 86) ha hb (by omega) dX10_reckon_85 rfl ?_
        refine g_nrmL (fun n16 rn16 en16 => ?_)
        refine g_lreturn dX10_reckon_86 ?_
        exact ⟨iM13, fM13, q97_12_M13, q97_19_M13, q97_21_M13, q97_32_M13, by first | assumption | decide | omega⟩
      · refine g_lconst (pc' := 79) (v := 0) dX10_reckon_78 rfl (by decide) ?_
        refine g_goto (tgt := 86) dX10_reckon_79 rfl ?_
        refine g_lreturn dX10_reckon_86 ?_
        exact ⟨iM13, fM13, q97_12_M13, q97_19_M13, q97_21_M13, q97_32_M13, by first | assumption | decide | omega⟩
  by_cases c17 : op = 24
  · refine g_tabIn (tgt := 87) (off := 86) hop dX10_reckon_1 (by omega) (by omega) (by rw [c17]; rfl) rfl ?_
    refine g_lload_n (pc' := 88) 2 dX10_reckon_87 rfl rfl ?_
    refine g_lload (pc' := 90) 3 dX10_reckon_88 rfl rfl ?_
    refine g_lc_ge (pc' := 94) (tgt := 98) ha hb dX10_reckon_90 dX10_reckon_91 rfl rfl (fun c18 => ?_) (fun c18 => ?_)
    · refine g_lconst (pc' := 99) (v := 0) dX10_reckon_98 rfl (by decide) ?_
      refine g_lreturn dX10_reckon_99 ?_
      exact ⟨hi, Fr.rf, rfl, rfl, rfl, rfl, by first | assumption | decide | omega⟩
    · refine g_lconst (pc' := 95) (v := 1) dX10_reckon_94 rfl (by decide) ?_
      refine g_goto (tgt := 99) dX10_reckon_95 rfl ?_
      refine g_lreturn dX10_reckon_99 ?_
      exact ⟨hi, Fr.rf, rfl, rfl, rfl, rfl, by first | assumption | decide | omega⟩
  by_cases c19 : op = 25
  · refine g_tabIn (tgt := 100) (off := 99) hop dX10_reckon_1 (by omega) (by omega) (by rw [c19]; rfl) rfl ?_
    refine g_lload_n (pc' := 101) 2 dX10_reckon_100 rfl rfl ?_
    refine g_lload (pc' := 103) 3 dX10_reckon_101 rfl rfl ?_
    refine g_lc_le (pc' := 107) (tgt := 111) ha hb dX10_reckon_103 dX10_reckon_104 rfl rfl (fun c20 => ?_) (fun c20 => ?_)
    · refine g_lconst (pc' := 112) (v := 0) dX10_reckon_111 rfl (by decide) ?_
      refine g_lreturn dX10_reckon_112 ?_
      exact ⟨hi, Fr.rf, rfl, rfl, rfl, rfl, by first | assumption | decide | omega⟩
    · refine g_lconst (pc' := 108) (v := 1) dX10_reckon_107 rfl (by decide) ?_
      refine g_goto (tgt := 112) dX10_reckon_108 rfl ?_
      refine g_lreturn dX10_reckon_112 ?_
      exact ⟨hi, Fr.rf, rfl, rfl, rfl, rfl, by first | assumption | decide | omega⟩
  refine g_tabOut (tgt := 113) hop dX10_reckon_1 (by omega) rfl ?_
  refine g_lload_n (pc' := 114) 2 dX10_reckon_113 rfl rfl ?_
  refine g_lload (pc' := 116) 3 dX10_reckon_114 rfl rfl ?_
  refine g_lc_ne (pc' := 120) (tgt := 124) ha hb dX10_reckon_116 dX10_reckon_117 rfl rfl (fun c22 => ?_) (fun c22 => ?_)
  · refine g_lconst (pc' := 125) (v := 0) dX10_reckon_124 rfl (by decide) ?_
    refine g_lreturn dX10_reckon_125 ?_
    exact ⟨hi, Fr.rf, rfl, rfl, rfl, rfl, by first | assumption | decide | omega⟩
  · refine g_lconst (pc' := 121) (v := 1) dX10_reckon_120 rfl (by decide) ?_
    refine g_goto (tgt := 125) dX10_reckon_121 rfl ?_
    refine g_lreturn dX10_reckon_125 ?_
    exact ⟨hi, Fr.rf, rfl, rfl, rfl, rfl, by first | assumption | decide | omega⟩
set_option maxHeartbeats 4000000 in
set_option maxRecDepth 100000 in
theorem l_X10_reckonAll_10 (X : Cx) (M : Mm) (hi : IM M) (a : Int) (ha : inI a) (b : Int) (hb : inI b) (hrg : RG (M 108) (M 109) a b) : ∀ (kk : Nat) (n : Int) (k : Int) (M1 : Mm) (ic1 : IM M1) (fr1 : Fr (fun c => c = 97 ∨ c = 112) M M1) (q97_12 : (M1 97 12 = M 97 12)) (q97_19 : (M1 97 19 = M 97 19)) (q97_21 : (M1 97 21 = M 97 21)) (q97_32 : (M1 97 32 = M 97 32)) (hab : 0 ≤ a ∧ a ≤ b ∧ b ≤ 400) (h : Nat → Int) (hz0 : h a.toNat = 0) (hst : ∀ k : Nat, a ≤ (k : Int) → (k : Int) < b → stOK h (M 108) (M 109) b k) (hk : a ≤ k ∧ k ≤ b) (hn : n = h k.toNat) (hn0 : 0 ≤ n ∧ n ≤ k - a), (b - k).toNat = kk → G X 3 RX10 cX10_reckonAll 7 none (Qv (fun M1 => IM M1 ∧ Fr (fun c => c = 97 ∨ c = 112) M M1 ∧ M1 97 12 = M 97 12 ∧ M1 97 19 = M 97 19 ∧ M1 97 21 = M 97 21 ∧ M1 97 32 = M 97 32)) 10 [(3, vi n), (4, vi k), (0, vr X 97), (1, vi a), (2, vi b)] [] M1 := by
  intro kk
  induction kk using Nat.strongRecOn with
  | ind kk ih =>
    intro n k M1 ic1 fr1 q97_12 q97_19 q97_21 q97_32 hab h hz0 hst hk hn hn0 hmes
    refine g_iload (pc' := 12) 1 dX10_reckonAll_10 rfl rfl ?_
    refine g_iload_n (pc' := 13) 4 dX10_reckonAll_12 rfl rfl ?_
    refine g_ic_ge (pc' := 16) (tgt := 224) ⟨by omega, by omega⟩ hb dX10_reckonAll_13 rfl rfl (fun c1 => ?_) (fun c1 => ?_)
    · refine g_aload_n (pc' := 225) 2 dX10_reckonAll_224 rfl rfl ?_
      refine g_iload_n (pc' := 226) 0 dX10_reckonAll_225 rfl rfl ?_
      refine g_if_le (pc' := 229) (tgt := 238) ⟨by omega, by omega⟩ dX10_reckonAll_226 rfl rfl (fun c2 => ?_) (fun c2 => ?_)
      · refine g_lconst (pc' := 239) (v := 0) dX10_reckonAll_238 rfl (by decide) ?_
        refine g_putL (pc' := 242) dX10_reckonAll_239 rfl p_X10_316 rfl rfl (by decide) (fun M3 hM3 => ?_)
        have iM3 : IM M3 := IM.wr ic1 hM3 (by unfold okv; first | decide | omega)
        have fM3 : Fr (fun c => c = 97 ∨ c = 112) M M3 := Fr.wr fr1 hM3 (by first | decide | omega | (dsimp only; omega))
        have q97_12_M3 : (M3 97 12 = M 97 12) := (show M3 97 12 = M1 97 12 by rw [hM3]; exact mu_ne _ _ (by first | decide | omega)).trans q97_12
        have q97_19_M3 : (M3 97 19 = M 97 19) := (show M3 97 19 = M1 97 19 by rw [hM3]; exact mu_ne _ _ (by first | decide | omega)).trans q97_19
        have q97_21_M3 : (M3 97 21 = M 97 21) := (show M3 97 21 = M1 97 21 by rw [hM3]; exact mu_ne _ _ (by first | decide | omega)).trans q97_21
        have q97_32_M3 : (M3 97 32 = M 97 32) := (show M3 97 32 = M1 97 32 by rw [hM3]; exact mu_ne _ _ (by first | decide | omega)).trans q97_32
        have xM3_97_31 : M3 97 31 = 0 := by rw [hM3]; exact mu_at _ _ _ _
        refine g_vreturn dX10_reckonAll_242 ?_
        exact ⟨iM3, fM3, q97_12_M3, q97_19_M3, q97_21_M3, q97_32_M3⟩
      · refine g_aload_n (pc' := 230) 2 dX10_reckonAll_229 rfl rfl ?_
        refine g_getR (pc' := 233) dX10_reckonAll_230 rfl f_X10_58 rfl rfl ?_
        refine g_iconst (pc' := 234) dX10_reckonAll_233 rfl ?_
        refine g_lald (pc' := 235) dX10_reckonAll_234 rfl rfl (by decide) (by decide) (fun v4 ev4 rv4 => ?_)
        have ev4 : v4 = M1 112 0 := ev4
        refine g_goto (tgt := 239) dX10_reckonAll_235 rfl ?_
        refine g_putL (pc' := 242) dX10_reckonAll_239 rfl p_X10_316 rfl rfl rv4 (fun M5 hM5 => ?_)
        have iM5 : IM M5 := IM.wr ic1 hM5 (by unfold okv; first | decide | omega)
        have fM5 : Fr (fun c => c = 97 ∨ c = 112) M M5 := Fr.wr fr1 hM5 (by first | decide | omega | (dsimp only; omega))
        have q97_12_M5 : (M5 97 12 = M 97 12) := (show M5 97 12 = M1 97 12 by rw [hM5]; exact mu_ne _ _ (by first | decide | omega)).trans q97_12
        have q97_19_M5 : (M5 97 19 = M 97 19) := (show M5 97 19 = M1 97 19 by rw [hM5]; exact mu_ne _ _ (by first | decide | omega)).trans q97_19
        have q97_21_M5 : (M5 97 21 = M 97 21) := (show M5 97 21 = M1 97 21 by rw [hM5]; exact mu_ne _ _ (by first | decide | omega)).trans q97_21
        have q97_32_M5 : (M5 97 32 = M 97 32) := (show M5 97 32 = M1 97 32 by rw [hM5]; exact mu_ne _ _ (by first | decide | omega)).trans q97_32
        have xM5_97_31 : M5 97 31 = v4 := by rw [hM5]; exact mu_at _ _ _ _
        refine g_vreturn dX10_reckonAll_242 ?_
        exact ⟨iM5, fM5, q97_12_M5, q97_19_M5, q97_21_M5, q97_32_M5⟩
    · refine g_aload_n (pc' := 17) 2 dX10_reckonAll_16 rfl rfl ?_
      refine g_getI (pc' := 20) dX10_reckonAll_17 rfl f_X10_301 rfl rfl (fun v6 ev6 rv6 => ?_)
      refine g_if_ne (pc' := 23) (tgt := 224) rv6 dX10_reckonAll_20 rfl rfl (fun c7 => ?_) (fun c7 => ?_)
      · refine g_aload_n (pc' := 225) 2 dX10_reckonAll_224 rfl rfl ?_
        refine g_iload_n (pc' := 226) 0 dX10_reckonAll_225 rfl rfl ?_
        refine g_if_le (pc' := 229) (tgt := 238) ⟨by omega, by omega⟩ dX10_reckonAll_226 rfl rfl (fun c8 => ?_) (fun c8 => ?_)
        · refine g_lconst (pc' := 239) (v := 0) dX10_reckonAll_238 rfl (by decide) ?_
          refine g_putL (pc' := 242) dX10_reckonAll_239 rfl p_X10_316 rfl rfl (by decide) (fun M9 hM9 => ?_)
          have iM9 : IM M9 := IM.wr ic1 hM9 (by unfold okv; first | decide | omega)
          have fM9 : Fr (fun c => c = 97 ∨ c = 112) M M9 := Fr.wr fr1 hM9 (by first | decide | omega | (dsimp only; omega))
          have q97_12_M9 : (M9 97 12 = M 97 12) := (show M9 97 12 = M1 97 12 by rw [hM9]; exact mu_ne _ _ (by first | decide | omega)).trans q97_12
          have q97_19_M9 : (M9 97 19 = M 97 19) := (show M9 97 19 = M1 97 19 by rw [hM9]; exact mu_ne _ _ (by first | decide | omega)).trans q97_19
          have q97_21_M9 : (M9 97 21 = M 97 21) := (show M9 97 21 = M1 97 21 by rw [hM9]; exact mu_ne _ _ (by first | decide | omega)).trans q97_21
          have q97_32_M9 : (M9 97 32 = M 97 32) := (show M9 97 32 = M1 97 32 by rw [hM9]; exact mu_ne _ _ (by first | decide | omega)).trans q97_32
          have xM9_97_31 : M9 97 31 = 0 := by rw [hM9]; exact mu_at _ _ _ _
          refine g_vreturn dX10_reckonAll_242 ?_
          exact ⟨iM9, fM9, q97_12_M9, q97_19_M9, q97_21_M9, q97_32_M9⟩
        · refine g_aload_n (pc' := 230) 2 dX10_reckonAll_229 rfl rfl ?_
          refine g_getR (pc' := 233) dX10_reckonAll_230 rfl f_X10_58 rfl rfl ?_
          refine g_iconst (pc' := 234) dX10_reckonAll_233 rfl ?_
          refine g_lald (pc' := 235) dX10_reckonAll_234 rfl rfl (by decide) (by decide) (fun v10 ev10 rv10 => ?_)
          have ev10 : v10 = M1 112 0 := ev10
          refine g_goto (tgt := 239) dX10_reckonAll_235 rfl ?_
          refine g_putL (pc' := 242) dX10_reckonAll_239 rfl p_X10_316 rfl rfl rv10 (fun M11 hM11 => ?_)
          have iM11 : IM M11 := IM.wr ic1 hM11 (by unfold okv; first | decide | omega)
          have fM11 : Fr (fun c => c = 97 ∨ c = 112) M M11 := Fr.wr fr1 hM11 (by first | decide | omega | (dsimp only; omega))
          have q97_12_M11 : (M11 97 12 = M 97 12) := (show M11 97 12 = M1 97 12 by rw [hM11]; exact mu_ne _ _ (by first | decide | omega)).trans q97_12
          have q97_19_M11 : (M11 97 19 = M 97 19) := (show M11 97 19 = M1 97 19 by rw [hM11]; exact mu_ne _ _ (by first | decide | omega)).trans q97_19
          have q97_21_M11 : (M11 97 21 = M 97 21) := (show M11 97 21 = M1 97 21 by rw [hM11]; exact mu_ne _ _ (by first | decide | omega)).trans q97_21
          have q97_32_M11 : (M11 97 32 = M 97 32) := (show M11 97 32 = M1 97 32 by rw [hM11]; exact mu_ne _ _ (by first | decide | omega)).trans q97_32
          have xM11_97_31 : M11 97 31 = v10 := by rw [hM11]; exact mu_at _ _ _ _
          refine g_vreturn dX10_reckonAll_242 ?_
          exact ⟨iM11, fM11, q97_12_M11, q97_19_M11, q97_21_M11, q97_32_M11⟩
      · refine g_aload_n (pc' := 24) 2 dX10_reckonAll_23 rfl rfl ?_
        refine g_getR (pc' := 27) dX10_reckonAll_24 rfl f_X10_46 rfl rfl ?_
        refine g_iload (pc' := 29) 1 dX10_reckonAll_27 rfl rfl ?_
        refine g_iald (pc' := 30) dX10_reckonAll_29 rfl rfl (by omega) (by omega) (fun v12 ev12 rv12 => ?_)
        have gv12 : v12 = M 108 k.toNat := by rw [ev12, fr1 108 (by decide)]
        refine g_istore (pc' := 32) (L' := [(5, vi v12), (3, vi n), (4, vi k), (0, vr X 97), (1, vi a), (2, vi b)]) dX10_reckonAll_30 rfl (by decide) rfl ?_
        refine g_aload_n (pc' := 33) 3 dX10_reckonAll_32 rfl rfl ?_
        refine g_getR (pc' := 36) dX10_reckonAll_33 rfl f_X10_49 rfl rfl ?_
        refine g_iload (pc' := 38) 2 dX10_reckonAll_36 rfl rfl ?_
        refine g_iald (pc' := 39) dX10_reckonAll_38 rfl rfl (by omega) (by omega) (fun v13 ev13 rv13 => ?_)
        have gv13 : v13 = M 109 k.toNat := by rw [ev13, fr1 109 (by decide)]
        have z0 := stOK.ar (n := n) hz0 (by omega) hst (k := k) (by omega) gv12 gv13 hn
        refine g_istore (pc' := 41) (L' := [(6, vi v13), (5, vi v12), (3, vi n), (4, vi k), (0, vr X 97), (1, vi a), (2, vi b)]) dX10_reckonAll_39 rfl (by decide) rfl ?_
        refine g_iinc (pc' := 44) (L' := [(4, vi (k + 1)), (6, vi v13), (5, vi v12), (3, vi n), (0, vr X 97), (1, vi a), (2, vi b)]) 3 dX10_reckonAll_41 rfl rfl (by decide) rfl ?_
        refine g_iload (pc' := 46) 2 dX10_reckonAll_44 rfl rfl ?_
        refine g_bipush (pc' := 48) (v := 20) dX10_reckonAll_46 rfl (by decide) ?_
        refine g_ic_ge (pc' := 51) (tgt := 82) rv12 (by decide) dX10_reckonAll_48 rfl rfl (fun c14 => ?_) (fun c14 => ?_)
        · refine g_iload (pc' := 84) 2 dX10_reckonAll_82 rfl rfl ?_
          refine g_bipush (pc' := 86) (v := 27) dX10_reckonAll_84 rfl (by decide) ?_
          refine g_ic_ge (pc' := 89) (tgt := 159) rv12 (by decide) dX10_reckonAll_86 rfl rfl (fun c15 => ?_) (fun c15 => ?_)
          · refine g_iload (pc' := 161) 2 dX10_reckonAll_159 rfl rfl ?_
            refine g_bipush (pc' := 163) (v := 27) dX10_reckonAll_161 rfl (by decide) ?_
            refine g_ic_ne (pc' := 166) (tgt := 187) rv12 (by decide) dX10_reckonAll_163 rfl rfl (fun c16 => ?_) (fun c16 => ?_)
            · refine g_aload_n (pc' := 188) 4 dX10_reckonAll_187 rfl rfl ?_
              refine g_getR (pc' := 191) dX10_reckonAll_188 rfl f_X10_58 rfl rfl ?_
              refine g_iload_n (pc' := 192) 3 dX10_reckonAll_191 rfl rfl ?_
              refine g_iconst (pc' := 193) dX10_reckonAll_192 rfl ?_
              refine g_isub (pc' := 194) dX10_reckonAll_193 rfl ?_
              refine g_lald (pc' := 195) dX10_reckonAll_194 rfl rfl (by omega) (by omega) (fun v17 ev17 rv17 => ?_)
              refine g_iload (pc' := 197) 2 dX10_reckonAll_195 rfl rfl ?_
              refine g_bipush (pc' := 199) (v := 28) dX10_reckonAll_197 rfl (by decide) ?_
              refine g_ic_ne (pc' := 202) (tgt := 206) rv12 (by decide) dX10_reckonAll_199 rfl rfl (fun c18 => ?_) (fun c18 => ?_)
              · refine g_lconst (pc' := 207) (v := 1) dX10_reckonAll_206 rfl (by decide) ?_
                refine g_lc_ne (pc' := 211) (tgt := 218) rv17 (by decide) dX10_reckonAll_207 dX10_reckonAll_208 rfl rfl (fun c19 => ?_) (fun c19 => ?_)
                · refine g_iinc (pc' := 221) (L' := [(3, vi (n + (-1))), (4, vi (k + 1)), (6, vi v13), (5, vi v12), (0, vr X 97), (1, vi a), (2, vi b)]) 3 dX10_reckonAll_218 rfl rfl (by decide) rfl ?_
                  refine g_goto (tgt := 10) dX10_reckonAll_221 rfl ?_
                  refine g_sub [0, 1, 4, 5, 6] rfl ?_
                  exact ih _ (by omega) (n + (-1)) (k + 1) M1 ic1 fr1 q97_12 q97_19 q97_21 q97_32 hab h hz0 hst (by omega) (by omega) (by omega) rfl
                · refine g_iload (pc' := 213) 1 dX10_reckonAll_211 rfl rfl ?_
                  refine g_istore (pc' := 215) (L' := [(4, vi v13), (6, vi v13), (5, vi v12), (3, vi n), (0, vr X 97), (1, vi a), (2, vi b)]) dX10_reckonAll_213 rfl (by decide) rfl ?_
                  refine g_goto (tgt := 221) dX10_reckonAll_215 rfl ?_
                  refine g_goto (tgt := 10) dX10_reckonAll_221 rfl ?_
                  refine g_sub [3, 0, 4, 5, 6] rfl ?_
                  exact ih _ (by omega) n v13 M1 ic1 fr1 q97_12 q97_19 q97_21 q97_32 hab h hz0 hst (by omega) (by omega) (by omega) rfl
              · refine g_lconst (pc' := 203) (v := 0) dX10_reckonAll_202 rfl (by decide) ?_
                refine g_goto (tgt := 207) dX10_reckonAll_203 rfl ?_
                refine g_lc_ne (pc' := 211) (tgt := 218) rv17 (by decide) dX10_reckonAll_207 dX10_reckonAll_208 rfl rfl (fun c20 => ?_) (fun c20 => ?_)
                · refine g_iinc (pc' := 221) (L' := [(3, vi (n + (-1))), (4, vi (k + 1)), (6, vi v13), (5, vi v12), (0, vr X 97), (1, vi a), (2, vi b)]) 3 dX10_reckonAll_218 rfl rfl (by decide) rfl ?_
                  refine g_goto (tgt := 10) dX10_reckonAll_221 rfl ?_
                  refine g_sub [0, 1, 4, 5, 6] rfl ?_
                  exact ih _ (by omega) (n + (-1)) (k + 1) M1 ic1 fr1 q97_12 q97_19 q97_21 q97_32 hab h hz0 hst (by omega) (by omega) (by omega) rfl
                · refine g_iload (pc' := 213) 1 dX10_reckonAll_211 rfl rfl ?_
                  refine g_istore (pc' := 215) (L' := [(4, vi v13), (6, vi v13), (5, vi v12), (3, vi n), (0, vr X 97), (1, vi a), (2, vi b)]) dX10_reckonAll_213 rfl (by decide) rfl ?_
                  refine g_goto (tgt := 221) dX10_reckonAll_215 rfl ?_
                  refine g_goto (tgt := 10) dX10_reckonAll_221 rfl ?_
                  refine g_sub [3, 0, 4, 5, 6] rfl ?_
                  exact ih _ (by omega) n v13 M1 ic1 fr1 q97_12 q97_19 q97_21 q97_32 hab h hz0 hst (by omega) (by omega) (by omega) rfl
            · refine g_aload_n (pc' := 167) 4 dX10_reckonAll_166 rfl rfl ?_
              refine g_getR (pc' := 170) dX10_reckonAll_167 rfl f_X10_58 rfl rfl ?_
              refine g_iload_n (pc' := 171) 3 dX10_reckonAll_170 rfl rfl ?_
              refine g_iconst (pc' := 172) dX10_reckonAll_171 rfl ?_
              refine g_isub (pc' := 173) dX10_reckonAll_172 rfl ?_
              refine g_lconst (pc' := 174) (v := 1) dX10_reckonAll_173 rfl (by decide) ?_
              refine g_aload_n (pc' := 175) 4 dX10_reckonAll_174 rfl rfl ?_
              refine g_getR (pc' := 178) dX10_reckonAll_175 rfl f_X10_58 rfl rfl ?_
              refine g_iload_n (pc' := 179) 3 dX10_reckonAll_178 rfl rfl ?_
              refine g_iconst (pc' := 180) dX10_reckonAll_179 rfl ?_
              refine g_isub (pc' := 181) dX10_reckonAll_180 rfl ?_
              refine g_lald (pc' := 182) dX10_reckonAll_181 rfl rfl (by omega) (by omega) (fun v21 ev21 rv21 => ?_)
              refine g_lsub (pc' := 183) dX10_reckonAll_182 rfl ?_
              refine g_nrmL (fun n22 rn22 en22 => ?_)
              refine g_last (pc' := 184) dX10_reckonAll_183 rfl rfl (by omega) (by omega) rn22 (fun M23 hM23 => ?_)
              have iM23 : IM M23 := IM.wr ic1 hM23 (by unfold okv; first | decide | omega)
              have fM23 : Fr (fun c => c = 97 ∨ c = 112) M M23 := Fr.wr fr1 hM23 (by first | decide | omega | (dsimp only; omega))
              have q97_12_M23 : (M23 97 12 = M 97 12) := (show M23 97 12 = M1 97 12 by rw [hM23]; exact mu_ne _ _ (by first | decide | omega)).trans q97_12
              have q97_19_M23 : (M23 97 19 = M 97 19) := (show M23 97 19 = M1 97 19 by rw [hM23]; exact mu_ne _ _ (by first | decide | omega)).trans q97_19
              have q97_21_M23 : (M23 97 21 = M 97 21) := (show M23 97 21 = M1 97 21 by rw [hM23]; exact mu_ne _ _ (by first | decide | omega)).trans q97_21
              have q97_32_M23 : (M23 97 32 = M 97 32) := (show M23 97 32 = M1 97 32 by rw [hM23]; exact mu_ne _ _ (by first | decide | omega)).trans q97_32
              refine g_goto (tgt := 221) dX10_reckonAll_184 rfl ?_
              refine g_goto (tgt := 10) dX10_reckonAll_221 rfl ?_
              refine g_sub [3, 0, 4, 5, 6] rfl ?_
              exact ih _ (by omega) n (k + 1) M23 iM23 fM23 q97_12_M23 q97_19_M23 q97_21_M23 q97_32_M23 hab h hz0 hst (by omega) (by omega) (by omega) rfl
          · refine g_iinc (pc' := 92) (L' := [(3, vi (n + (-1))), (4, vi (k + 1)), (6, vi v13), (5, vi v12), (0, vr X 97), (1, vi a), (2, vi b)]) 3 dX10_reckonAll_89 rfl rfl (by decide) rfl ?_
            refine g_aload_n (pc' := 93) 4 dX10_reckonAll_92 rfl rfl ?_
            refine g_getR (pc' := 96) dX10_reckonAll_93 rfl f_X10_58 rfl rfl ?_
            refine g_iload_n (pc' := 97) 0 dX10_reckonAll_96 rfl rfl ?_
            refine g_iconst (pc' := 98) dX10_reckonAll_97 rfl ?_
            refine g_isub (pc' := 99) dX10_reckonAll_98 rfl ?_
            refine g_aload_n (pc' := 100) 4 dX10_reckonAll_99 rfl rfl ?_
            refine g_iload (pc' := 102) 3 dX10_reckonAll_100 rfl rfl ?_
            refine g_aload_n (pc' := 103) 4 dX10_reckonAll_102 rfl rfl ?_
            refine g_getR (pc' := 106) dX10_reckonAll_103 rfl f_X10_58 rfl rfl ?_
            refine g_iload_n (pc' := 107) 0 dX10_reckonAll_106 rfl rfl ?_
            refine g_iconst (pc' := 108) dX10_reckonAll_107 rfl ?_
            refine g_isub (pc' := 109) dX10_reckonAll_108 rfl ?_
            refine g_lald (pc' := 110) dX10_reckonAll_109 rfl rfl (by omega) (by omega) (fun v24 ev24 rv24 => ?_)
            refine g_aload_n (pc' := 111) 4 dX10_reckonAll_110 rfl rfl ?_
            refine g_getR (pc' := 114) dX10_reckonAll_111 rfl f_X10_58 rfl rfl ?_
            refine g_iload_n (pc' := 115) 0 dX10_reckonAll_114 rfl rfl ?_
            refine g_lald (pc' := 116) dX10_reckonAll_115 rfl rfl (by omega) (by omega) (fun v25 ev25 rv25 => ?_)
            refine g_callVl (pc' := 119) (As := [vi v12, vl v24, vl v25]) (b := 97) (S := [vi ((n + (-1)) - 1), vr X 112]) dX10_reckonAll_116 rfl m_X10_308 w_X10_reckon (c_X10_reckon X M1 ic1 v12 rv12 v24 rv24 v25 rv25) rfl ⟨_, _, _, rfl, rfl, rfl⟩ (by decide) (by decide) rfl (Nat.le_of_ble_eq_true rfl) (fun z27 M28 q26 => ?_)
            obtain ⟨iM28, fM280, eM28_97_12, eM28_97_19, eM28_97_21, eM28_97_32, pM28⟩ := q26
            have fM28 : Fr (fun c => c = 97 ∨ c = 112) M M28 := Fr.tr fr1 fM280 fi_36
            have q97_12_M28 : (M28 97 12 = M 97 12) := eM28_97_12.trans q97_12
            have q97_19_M28 : (M28 97 19 = M 97 19) := eM28_97_19.trans q97_19
            have q97_21_M28 : (M28 97 21 = M 97 21) := eM28_97_21.trans q97_21
            have q97_32_M28 : (M28 97 32 = M 97 32) := eM28_97_32.trans q97_32
            refine g_last (pc' := 120) dX10_reckonAll_119 rfl rfl (by omega) (by omega) ⟨by omega, by omega⟩ (fun M29 hM29 => ?_)
            have iM29 : IM M29 := IM.wr iM28 hM29 (by unfold okv; first | decide | omega)
            have fM29 : Fr (fun c => c = 97 ∨ c = 112) M M29 := Fr.wr fM28 hM29 (by first | decide | omega | (dsimp only; omega))
            have q97_12_M29 : (M29 97 12 = M 97 12) := (show M29 97 12 = M28 97 12 by rw [hM29]; exact mu_ne _ _ (by first | decide | omega)).trans q97_12_M28
            have q97_19_M29 : (M29 97 19 = M 97 19) := (show M29 97 19 = M28 97 19 by rw [hM29]; exact mu_ne _ _ (by first | decide | omega)).trans q97_19_M28
            have q97_21_M29 : (M29 97 21 = M 97 21) := (show M29 97 21 = M28 97 21 by rw [hM29]; exact mu_ne _ _ (by first | decide | omega)).trans q97_21_M28
            have q97_32_M29 : (M29 97 32 = M 97 32) := (show M29 97 32 = M28 97 32 by rw [hM29]; exact mu_ne _ _ (by first | decide | omega)).trans q97_32_M28
            refine g_aload_n (pc' := 121) 4 dX10_reckonAll_120 rfl rfl ?_
            refine g_aload_n (pc' := 122) 4 dX10_reckonAll_121 rfl rfl ?_
            refine g_getI (pc' := 125) dX10_reckonAll_122 rfl f_X10_301 rfl rfl (fun v30 ev30 rv30 => ?_)
            refine g_if_ne (pc' := 128) (tgt := 148) rv30 dX10_reckonAll_125 rfl rfl (fun c31 => ?_) (fun c31 => ?_)
            · refine g_iconst (pc' := 149) dX10_reckonAll_148 rfl ?_
              refine g_goto (tgt := 153) dX10_reckonAll_149 rfl ?_
              refine g_putZ (pc' := 156) dX10_reckonAll_153 rfl p_X10_301 rfl rfl (by omega) (fun M32 hM32 => ?_)
              have iM32 : IM M32 := IM.wr iM29 hM32 (by unfold okv; first | decide | omega)
              have fM32 : Fr (fun c => c = 97 ∨ c = 112) M M32 := Fr.wr fM29 hM32 (by first | decide | omega | (dsimp only; omega))
              have q97_12_M32 : (M32 97 12 = M 97 12) := (show M32 97 12 = M29 97 12 by rw [hM32]; exact mu_ne _ _ (by first | decide | omega)).trans q97_12_M29
              have q97_19_M32 : (M32 97 19 = M 97 19) := (show M32 97 19 = M29 97 19 by rw [hM32]; exact mu_ne _ _ (by first | decide | omega)).trans q97_19_M29
              have q97_21_M32 : (M32 97 21 = M 97 21) := (show M32 97 21 = M29 97 21 by rw [hM32]; exact mu_ne _ _ (by first | decide | omega)).trans q97_21_M29
              have q97_32_M32 : (M32 97 32 = M 97 32) := (show M32 97 32 = M29 97 32 by rw [hM32]; exact mu_ne _ _ (by first | decide | omega)).trans q97_32_M29
              have xM32_97_30 : M32 97 30 = 1 := by rw [hM32]; exact mu_at _ _ _ _
              refine g_goto (tgt := 221) dX10_reckonAll_156 rfl ?_
              refine g_goto (tgt := 10) dX10_reckonAll_221 rfl ?_
              refine g_sub [0, 1, 4, 5, 6] rfl ?_
              exact ih _ (by omega) (n + (-1)) (k + 1) M32 iM32 fM32 q97_12_M32 q97_19_M32 q97_21_M32 q97_32_M32 hab h hz0 hst (by omega) (by omega) (by omega) rfl
            · refine g_aload_n (pc' := 129) 4 dX10_reckonAll_128 rfl rfl ?_
              refine g_getR (pc' := 132) dX10_reckonAll_129 rfl f_X10_58 rfl rfl ?_
              refine g_iload_n (pc' := 133) 0 dX10_reckonAll_132 rfl rfl ?_
              refine g_iconst (pc' := 134) dX10_reckonAll_133 rfl ?_
              refine g_isub (pc' := 135) dX10_reckonAll_134 rfl ?_
              refine g_lald (pc' := 136) dX10_reckonAll_135 rfl rfl (by omega) (by omega) (fun v33 ev33 rv33 => ?_)
              refine g_ldc2 (pc' := 139) (v := (-1000000000)) dX10_reckonAll_136 rfl k_X10_312 ?_
              refine g_ldc2 (pc' := 142) (v := 1000000000) dX10_reckonAll_139 rfl k_X10_314 ?_
              refine g_callSip (pc' := 145) (As := [vl v33, vl (-1000000000), vl 1000000000]) (S := [vr X 97]) dX10_reckonAll_142 rfl m_X10_83 w_X10_in (c_X10_in X M29 v33 rv33 (-1000000000) (by decide) 1000000000 (by decide)) rfl (by decide) (by decide) rfl (Nat.le_of_ble_eq_true rfl) (fun z35 q34 => ?_)
              refine g_if_ne (pc' := 148) (tgt := 152) ⟨by omega, by omega⟩ dX10_reckonAll_145 rfl rfl (fun c36 => ?_) (fun c36 => ?_)
              · replace q34 := q34.resolve_right (fun h => c36 h.1)
                refine g_iconst (pc' := 153) dX10_reckonAll_152 rfl ?_
                refine g_putZ (pc' := 156) dX10_reckonAll_153 rfl p_X10_301 rfl rfl (by omega) (fun M37 hM37 => ?_)
                have iM37 : IM M37 := IM.wr iM29 hM37 (by unfold okv; first | decide | omega)
                have fM37 : Fr (fun c => c = 97 ∨ c = 112) M M37 := Fr.wr fM29 hM37 (by first | decide | omega | (dsimp only; omega))
                have q97_12_M37 : (M37 97 12 = M 97 12) := (show M37 97 12 = M29 97 12 by rw [hM37]; exact mu_ne _ _ (by first | decide | omega)).trans q97_12_M29
                have q97_19_M37 : (M37 97 19 = M 97 19) := (show M37 97 19 = M29 97 19 by rw [hM37]; exact mu_ne _ _ (by first | decide | omega)).trans q97_19_M29
                have q97_21_M37 : (M37 97 21 = M 97 21) := (show M37 97 21 = M29 97 21 by rw [hM37]; exact mu_ne _ _ (by first | decide | omega)).trans q97_21_M29
                have q97_32_M37 : (M37 97 32 = M 97 32) := (show M37 97 32 = M29 97 32 by rw [hM37]; exact mu_ne _ _ (by first | decide | omega)).trans q97_32_M29
                have xM37_97_30 : M37 97 30 = 0 := by rw [hM37]; exact mu_at _ _ _ _
                refine g_goto (tgt := 221) dX10_reckonAll_156 rfl ?_
                refine g_goto (tgt := 10) dX10_reckonAll_221 rfl ?_
                refine g_sub [0, 1, 4, 5, 6] rfl ?_
                exact ih _ (by omega) (n + (-1)) (k + 1) M37 iM37 fM37 q97_12_M37 q97_19_M37 q97_21_M37 q97_32_M37 hab h hz0 hst (by omega) (by omega) (by omega) rfl
              · replace q34 := q34.resolve_left (fun h => absurd (c36.symm.trans h.1) (by decide))
                refine g_iconst (pc' := 149) dX10_reckonAll_148 rfl ?_
                refine g_goto (tgt := 153) dX10_reckonAll_149 rfl ?_
                refine g_putZ (pc' := 156) dX10_reckonAll_153 rfl p_X10_301 rfl rfl (by omega) (fun M38 hM38 => ?_)
                have iM38 : IM M38 := IM.wr iM29 hM38 (by unfold okv; first | decide | omega)
                have fM38 : Fr (fun c => c = 97 ∨ c = 112) M M38 := Fr.wr fM29 hM38 (by first | decide | omega | (dsimp only; omega))
                have q97_12_M38 : (M38 97 12 = M 97 12) := (show M38 97 12 = M29 97 12 by rw [hM38]; exact mu_ne _ _ (by first | decide | omega)).trans q97_12_M29
                have q97_19_M38 : (M38 97 19 = M 97 19) := (show M38 97 19 = M29 97 19 by rw [hM38]; exact mu_ne _ _ (by first | decide | omega)).trans q97_19_M29
                have q97_21_M38 : (M38 97 21 = M 97 21) := (show M38 97 21 = M29 97 21 by rw [hM38]; exact mu_ne _ _ (by first | decide | omega)).trans q97_21_M29
                have q97_32_M38 : (M38 97 32 = M 97 32) := (show M38 97 32 = M29 97 32 by rw [hM38]; exact mu_ne _ _ (by first | decide | omega)).trans q97_32_M29
                have xM38_97_30 : M38 97 30 = 1 := by rw [hM38]; exact mu_at _ _ _ _
                refine g_goto (tgt := 221) dX10_reckonAll_156 rfl ?_
                refine g_goto (tgt := 10) dX10_reckonAll_221 rfl ?_
                refine g_sub [0, 1, 4, 5, 6] rfl ?_
                exact ih _ (by omega) (n + (-1)) (k + 1) M38 iM38 fM38 q97_12_M38 q97_19_M38 q97_21_M38 q97_32_M38 hab h hz0 hst (by omega) (by omega) (by omega) rfl
        · refine g_aload_n (pc' := 52) 4 dX10_reckonAll_51 rfl rfl ?_
          refine g_getR (pc' := 55) dX10_reckonAll_52 rfl f_X10_58 rfl rfl ?_
          refine g_iload_n (pc' := 56) 3 dX10_reckonAll_55 rfl rfl ?_
          refine g_iload (pc' := 58) 2 dX10_reckonAll_56 rfl rfl ?_
          refine g_if_ne (pc' := 61) (tgt := 67) rv12 dX10_reckonAll_58 rfl rfl (fun c39 => ?_) (fun c39 => ?_)
          · refine g_aload_n (pc' := 68) 4 dX10_reckonAll_67 rfl rfl ?_
            refine g_iload (pc' := 70) 2 dX10_reckonAll_68 rfl rfl ?_
            refine g_iload (pc' := 72) 1 dX10_reckonAll_70 rfl rfl ?_
            refine g_callVlp (pc' := 75) (As := [vi v12, vi v13]) (b := 97) (S := [vi n, vr X 112]) dX10_reckonAll_72 rfl m_X10_304 w_X10_partOf (c_X10_partOf X M1 ic1 v12 rv12 v13 rv13 (by omega) (by omega)) rfl ⟨_, _, _, rfl, rfl, rfl⟩ (by decide) (by decide) rfl (Nat.le_of_ble_eq_true rfl) (fun z41 q40 => ?_)
            refine g_last (pc' := 76) dX10_reckonAll_75 rfl rfl (by omega) (by omega) ⟨by omega, by omega⟩ (fun M42 hM42 => ?_)
            have iM42 : IM M42 := IM.wr ic1 hM42 (by unfold okv; first | decide | omega)
            have fM42 : Fr (fun c => c = 97 ∨ c = 112) M M42 := Fr.wr fr1 hM42 (by first | decide | omega | (dsimp only; omega))
            have q97_12_M42 : (M42 97 12 = M 97 12) := (show M42 97 12 = M1 97 12 by rw [hM42]; exact mu_ne _ _ (by first | decide | omega)).trans q97_12
            have q97_19_M42 : (M42 97 19 = M 97 19) := (show M42 97 19 = M1 97 19 by rw [hM42]; exact mu_ne _ _ (by first | decide | omega)).trans q97_19
            have q97_21_M42 : (M42 97 21 = M 97 21) := (show M42 97 21 = M1 97 21 by rw [hM42]; exact mu_ne _ _ (by first | decide | omega)).trans q97_21
            have q97_32_M42 : (M42 97 32 = M 97 32) := (show M42 97 32 = M1 97 32 by rw [hM42]; exact mu_ne _ _ (by first | decide | omega)).trans q97_32
            refine g_iinc (pc' := 79) (L' := [(3, vi (n + 1)), (4, vi (k + 1)), (6, vi v13), (5, vi v12), (0, vr X 97), (1, vi a), (2, vi b)]) 3 dX10_reckonAll_76 rfl rfl (by decide) rfl ?_
            refine g_goto (tgt := 221) dX10_reckonAll_79 rfl ?_
            refine g_goto (tgt := 10) dX10_reckonAll_221 rfl ?_
            refine g_sub [0, 1, 4, 5, 6] rfl ?_
            exact ih _ (by omega) (n + 1) (k + 1) M42 iM42 fM42 q97_12_M42 q97_19_M42 q97_21_M42 q97_32_M42 hab h hz0 hst (by omega) (by omega) (by omega) rfl
          · refine g_iload (pc' := 63) 1 dX10_reckonAll_61 rfl rfl ?_
            refine g_i2l (pc' := 64) rv13 dX10_reckonAll_63 rfl ?_
            refine g_goto (tgt := 75) dX10_reckonAll_64 rfl ?_
            refine g_last (pc' := 76) dX10_reckonAll_75 rfl rfl (by omega) (by omega) ⟨by omega, by omega⟩ (fun M43 hM43 => ?_)
            have iM43 : IM M43 := IM.wr ic1 hM43 (by unfold okv; first | decide | omega)
            have fM43 : Fr (fun c => c = 97 ∨ c = 112) M M43 := Fr.wr fr1 hM43 (by first | decide | omega | (dsimp only; omega))
            have q97_12_M43 : (M43 97 12 = M 97 12) := (show M43 97 12 = M1 97 12 by rw [hM43]; exact mu_ne _ _ (by first | decide | omega)).trans q97_12
            have q97_19_M43 : (M43 97 19 = M 97 19) := (show M43 97 19 = M1 97 19 by rw [hM43]; exact mu_ne _ _ (by first | decide | omega)).trans q97_19
            have q97_21_M43 : (M43 97 21 = M 97 21) := (show M43 97 21 = M1 97 21 by rw [hM43]; exact mu_ne _ _ (by first | decide | omega)).trans q97_21
            have q97_32_M43 : (M43 97 32 = M 97 32) := (show M43 97 32 = M1 97 32 by rw [hM43]; exact mu_ne _ _ (by first | decide | omega)).trans q97_32
            refine g_iinc (pc' := 79) (L' := [(3, vi (n + 1)), (4, vi (k + 1)), (6, vi v13), (5, vi v12), (0, vr X 97), (1, vi a), (2, vi b)]) 3 dX10_reckonAll_76 rfl rfl (by decide) rfl ?_
            refine g_goto (tgt := 221) dX10_reckonAll_79 rfl ?_
            refine g_goto (tgt := 10) dX10_reckonAll_221 rfl ?_
            refine g_sub [0, 1, 4, 5, 6] rfl ?_
            exact ih _ (by omega) (n + 1) (k + 1) M43 iM43 fM43 q97_12_M43 q97_19_M43 q97_21_M43 q97_32_M43 hab h hz0 hst (by omega) (by omega) (by omega) rfl
set_option maxHeartbeats 4000000 in
set_option maxRecDepth 100000 in
theorem c_X10_reckonAll (X : Cx) (M : Mm) (hi : IM M) (a : Int) (ha : inI a) (b : Int) (hb : inI b) (hrg : RG (M 108) (M 109) a b) : Con X 3 yX10_reckonAll cX10_reckonAll 7 none [vr X 97, vi a, vi b] M (Qv (fun M1 => IM M1 ∧ Fr (fun c => c = 97 ∨ c = 112) M M1 ∧ M1 97 12 = M 97 12 ∧ M1 97 19 = M 97 19 ∧ M1 97 21 = M 97 21 ∧ M1 97 32 = M 97 32)) := by
  refine Con.ofG rfl (Nat.le_of_ble_eq_true rfl) ?_
  show G X 3 RX10 cX10_reckonAll 7 none (Qv (fun M1 => IM M1 ∧ Fr (fun c => c = 97 ∨ c = 112) M M1 ∧ M1 97 12 = M 97 12 ∧ M1 97 19 = M 97 19 ∧ M1 97 21 = M 97 21 ∧ M1 97 32 = M 97 32)) 0 [(0, vr X 97), (1, vi a), (2, vi b)] [] M
  have hrg2 := hrg
  obtain ⟨hab, h, hz0, hst⟩ := hrg2
  refine g_aload_n (pc' := 1) 0 dX10_reckonAll_0 rfl rfl ?_
  refine g_iconst (pc' := 2) dX10_reckonAll_1 rfl ?_
  refine g_putZ (pc' := 5) dX10_reckonAll_2 rfl p_X10_301 rfl rfl (by omega) (fun M1 hM1 => ?_)
  have iM1 : IM M1 := IM.wr hi hM1 (by unfold okv; first | decide | omega)
  have fM1 : Fr (fun c => c = 97 ∨ c = 112) M M1 := Fr.wr Fr.rf hM1 (by first | decide | omega | (dsimp only; omega))
  have q97_12_M1 : (M1 97 12 = M 97 12) := (show M1 97 12 = M 97 12 by rw [hM1]; exact mu_ne _ _ (by first | decide | omega))
  have q97_19_M1 : (M1 97 19 = M 97 19) := (show M1 97 19 = M 97 19 by rw [hM1]; exact mu_ne _ _ (by first | decide | omega))
  have q97_21_M1 : (M1 97 21 = M 97 21) := (show M1 97 21 = M 97 21 by rw [hM1]; exact mu_ne _ _ (by first | decide | omega))
  have q97_32_M1 : (M1 97 32 = M 97 32) := (show M1 97 32 = M 97 32 by rw [hM1]; exact mu_ne _ _ (by first | decide | omega))
  have xM1_97_30 : M1 97 30 = 0 := by rw [hM1]; exact mu_at _ _ _ _
  refine g_iconst (pc' := 6) dX10_reckonAll_5 rfl ?_
  refine g_istore_n (pc' := 7) (i := 3) (L' := [(3, vi 0), (0, vr X 97), (1, vi a), (2, vi b)]) dX10_reckonAll_6 rfl rfl (by decide) rfl ?_
  refine g_iload_n (pc' := 8) 2 dX10_reckonAll_7 rfl rfl ?_
  refine g_istore (pc' := 10) (L' := [(4, vi a), (3, vi 0), (0, vr X 97), (1, vi a), (2, vi b)]) dX10_reckonAll_8 rfl (by decide) rfl ?_
  refine g_sub [1, 0, 2, 3, 4] rfl ?_
  exact l_X10_reckonAll_10 X M hi a ha b hb hrg _ 0 a M1 iM1 fM1 q97_12_M1 q97_19_M1 q97_21_M1 q97_32_M1 hab h hz0 hst (by omega) hz0.symm (by omega) rfl
set_option maxHeartbeats 4000000 in
set_option maxRecDepth 100000 in
theorem j_X10_move_143 (X : Cx) (M : Mm) (hi : IM M) (c : Int) (hc : inI c) (hc8 : 0 ≤ c ∧ c ≤ 88) (hcl : CLv (M 107) (M 108) (M 109) (M 97 21) c) (hdn : 0 ≤ M 97 32 ∧ M 97 32 ≤ 1000) (hd : Int) (to : Int) (th : Int) (M1 : Mm) (ic1 : IM M1) (fr1 : Fr (fun c => c = 97 ∨ c = 101 ∨ c = 104 ∨ c = 105 ∨ c = 112) M M1) (q97_12 : (M1 97 12 = M 97 12)) (q97_19 : (M1 97 19 = M 97 19)) (q97_21 : (M1 97 21 = M 97 21)) (d32 : M1 97 32 = M 97 32) (kq1 : M1 104 = M 104) (ghd : hd = M 107 c.toNat ∧ to = M 107 (c + 2).toNat) (hth : th = 0 ∨ (th = 1 ∧ (hd = 2 → 0 ≤ to ∧ to ≤ 5) ∧ (hd ≠ 2 → hd = 1 ∨ (0 ≤ to ∧ to ≤ 5)))) : G X 4 RX10 cX10_move 6 (some .int) (Qi (fun r M1 => IM M1 ∧ Fr (fun c => c = 97 ∨ c = 101 ∨ c = 104 ∨ c = 105 ∨ c = 112) M M1 ∧ M1 97 12 = M 97 12 ∧ M1 97 19 = M 97 19 ∧ M1 97 21 = M 97 21 ∧ ((r = 0 ∨ r = -3 ∨ r = -5) ∧ (0 ≤ M1 97 32 ∧ M1 97 32 ≤ M 97 32 + 1) ∧ KQ M M1))) 143 [(2, vi hd), (3, vi to), (4, vi th), (0, vr X 97), (1, vi c)] [] M1 := by
  have p0 := hi.1.1
  have hcl2 := hcl
  obtain ⟨l0, l1, l2, l7, ⟨l4, l4n⟩, ⟨l6, l6n⟩⟩ := hcl2
  have l4a := l4.1
  have l6a := l6.1
  refine g_aload_n (pc' := 144) 3 dX10_move_143 rfl rfl ?_
  refine g_getI (pc' := 147) dX10_move_144 rfl f_X10_301 rfl rfl (fun v1 ev1 rv1 => ?_)
  refine g_if_ne (pc' := 150) (tgt := 169) rv1 dX10_move_147 rfl rfl (fun c2 => ?_) (fun c2 => ?_)
  · refine g_bipush (pc' := 171) (v := (-3)) dX10_move_169 rfl (by decide) ?_
    refine g_ireturn dX10_move_171 ?_
    exact ⟨ic1, fr1, q97_12, q97_19, q97_21, by omega, by omega, (KQ.e (kq1))⟩
  · refine g_aload_n (pc' := 151) 3 dX10_move_150 rfl rfl ?_
    refine g_getL (pc' := 154) dX10_move_151 rfl f_X10_316 rfl rfl (fun v3 ev3 rv3 => ?_)
    refine g_lconst (pc' := 155) (v := 1) dX10_move_154 rfl (by decide) ?_
    refine g_ldc2 (pc' := 158) (v := 60) dX10_move_155 rfl k_X10_93 ?_
    refine g_callSip (pc' := 161) (As := [vl v3, vl 1, vl 60]) (S := []) dX10_move_158 rfl m_X10_83 w_X10_in (c_X10_in X M1 v3 rv3 1 (by decide) 60 (by decide)) rfl (by decide) (by decide) rfl (Nat.le_of_ble_eq_true rfl) (fun z5 q4 => ?_)
    refine g_if_eq (pc' := 164) (tgt := 169) ⟨by omega, by omega⟩ dX10_move_161 rfl rfl (fun c6 => ?_) (fun c6 => ?_)
    · replace q4 := q4.resolve_left (fun h => absurd (c6.symm.trans h.1) (by decide))
      refine g_bipush (pc' := 171) (v := (-3)) dX10_move_169 rfl (by decide) ?_
      refine g_ireturn dX10_move_171 ?_
      exact ⟨ic1, fr1, q97_12, q97_19, q97_21, by omega, by omega, (KQ.e (kq1))⟩
    · replace q4 := q4.resolve_right (fun h => c6 h.1)
      refine g_iload (pc' := 166) 2 dX10_move_164 rfl rfl ?_
      refine g_if_ne (pc' := 169) (tgt := 172) ⟨by omega, by omega⟩ dX10_move_166 rfl rfl (fun c7 => ?_) (fun c7 => ?_)
      · refine g_iload_n (pc' := 173) 0 dX10_move_172 rfl rfl ?_
        refine g_iconst (pc' := 174) dX10_move_173 rfl ?_
        refine g_ic_ne (pc' := 177) (tgt := 198) ⟨by omega, by omega⟩ (by decide) dX10_move_174 rfl rfl (fun c8 => ?_) (fun c8 => ?_)
        · refine g_aload_n (pc' := 199) 3 dX10_move_198 rfl rfl ?_
          refine g_aload_n (pc' := 200) 3 dX10_move_199 rfl rfl ?_
          refine g_getR (pc' := 203) dX10_move_200 rfl f_X10_43 rfl rfl ?_
          refine g_iload_n (pc' := 204) 4 dX10_move_203 rfl rfl ?_
          refine g_iconst (pc' := 205) dX10_move_204 rfl ?_
          refine g_iadd (pc' := 206) dX10_move_205 rfl ?_
          refine g_iald (pc' := 207) dX10_move_206 rfl rfl (by omega) (by omega) (fun v9 ev9 rv9 => ?_)
          have gv9 : v9 = M 107 (c + 1).toNat := by rw [ev9, fr1 107 (by decide)]
          refine g_iload_n (pc' := 208) 0 dX10_move_207 rfl rfl ?_
          refine g_iconst (pc' := 209) dX10_move_208 rfl ?_
          refine g_ic_ne (pc' := 212) (tgt := 216) ⟨by omega, by omega⟩ (by decide) dX10_move_209 rfl rfl (fun c10 => ?_) (fun c10 => ?_)
          · refine g_iload_n (pc' := 217) 1 dX10_move_216 rfl rfl ?_
            refine g_aload_n (pc' := 218) 3 dX10_move_217 rfl rfl ?_
            refine g_getL (pc' := 221) dX10_move_218 rfl f_X10_316 rfl rfl (fun v11 ev11 rv11 => ?_)
            obtain rfl : v3 = v11 := ev3.trans ev11.symm
            refine g_l2i (pc' := 222) dX10_move_221 rfl ?_
            refine g_callVi (pc' := 225) (As := [vi v9, vi to, vi v3]) (b := 97) (S := []) dX10_move_222 rfl m_X10_139 w_X10_spooned (c_X10_spooned X M1 ic1 v9 rv9 to ⟨by omega, by omega⟩ v3 ⟨by omega, by omega⟩ (by omega) (by omega) (by omega)) rfl ⟨_, _, _, rfl, rfl, rfl⟩ (by decide) (by decide) rfl (Nat.le_of_ble_eq_true rfl) (fun z13 M14 q12 => ?_)
            obtain ⟨iM14, fM140, pM14⟩ := q12
            have fM14 : Fr (fun c => c = 97 ∨ c = 101 ∨ c = 104 ∨ c = 105 ∨ c = 112) M M14 := Fr.tr fr1 fM140 fi_37
            have q97_12_M14 : (M14 97 12 = M 97 12) := (congrFun (fM140 97 (by first | decide | omega | (dsimp only; omega))) 12).trans q97_12
            have q97_19_M14 : (M14 97 19 = M 97 19) := (congrFun (fM140 97 (by first | decide | omega | (dsimp only; omega))) 19).trans q97_19
            have q97_21_M14 : (M14 97 21 = M 97 21) := (congrFun (fM140 97 (by first | decide | omega | (dsimp only; omega))) 21).trans q97_21
            have wM14_97_31 : M14 97 31 = M1 97 31 := (congrFun (fM140 97 (by first | decide | omega | (dsimp only; omega))) 31)
            have wM14_97_32 : M14 97 32 = M1 97 32 := (congrFun (fM140 97 (by first | decide | omega | (dsimp only; omega))) 32)
            have kqM14 : KQ M M14 := KQ.tr (KQ.e kq1) pM14.2
            have prM14 := pM14.1
            refine g_istore (pc' := 227) (L' := [(5, vi z13), (2, vi hd), (3, vi to), (4, vi th), (0, vr X 97), (1, vi c)]) dX10_move_225 rfl (by decide) rfl ?_
            refine g_aload_n (pc' := 228) 4 dX10_move_227 rfl rfl ?_
            refine g_dup (pc' := 229) dX10_move_228 rfl rfl ?_
            refine g_getI (pc' := 232) dX10_move_229 rfl f_X10_298 rfl rfl (fun v15 ev15 rv15 => ?_)
            refine g_iload (pc' := 234) 0 dX10_move_232 rfl rfl ?_
            refine g_if_ge (pc' := 237) (tgt := 241) ⟨by omega, by omega⟩ dX10_move_234 rfl rfl (fun c16 => ?_) (fun c16 => ?_)
            · refine g_iconst (pc' := 242) dX10_move_241 rfl ?_
              refine g_iadd (pc' := 243) dX10_move_242 rfl ?_
              refine g_putI (pc' := 246) dX10_move_243 rfl p_X10_298 rfl rfl ⟨by omega, by omega⟩ (fun M17 hM17 => ?_)
              have iM17 : IM M17 := IM.wr iM14 hM17 (by unfold okv; first | decide | omega)
              have fM17 : Fr (fun c => c = 97 ∨ c = 101 ∨ c = 104 ∨ c = 105 ∨ c = 112) M M17 := Fr.wr fM14 hM17 (by first | decide | omega | (dsimp only; omega))
              have q97_12_M17 : (M17 97 12 = M 97 12) := (show M17 97 12 = M14 97 12 by rw [hM17]; exact mu_ne _ _ (by first | decide | omega)).trans q97_12_M14
              have q97_19_M17 : (M17 97 19 = M 97 19) := (show M17 97 19 = M14 97 19 by rw [hM17]; exact mu_ne _ _ (by first | decide | omega)).trans q97_19_M14
              have q97_21_M17 : (M17 97 21 = M 97 21) := (show M17 97 21 = M14 97 21 by rw [hM17]; exact mu_ne _ _ (by first | decide | omega)).trans q97_21_M14
              have wM17_97_31 : M17 97 31 = M14 97 31 := by rw [hM17]; exact mu_ne _ _ (by first | decide | omega)
              have xM17_97_32 : M17 97 32 = v15 + 1 := by rw [hM17]; exact mu_at _ _ _ _
              have kqM17 : KQ M M17 := KQ.tr kqM14 (KQ.e (by rw [hM17, mu_cell _ _ (by decide)]))
              refine g_iload (pc' := 248) 0 dX10_move_246 rfl rfl ?_
              refine g_ireturn dX10_move_248 ?_
              exact ⟨iM17, fM17, q97_12_M17, q97_19_M17, q97_21_M17, by omega, by omega, kqM17⟩
            · refine g_iconst (pc' := 238) dX10_move_237 rfl ?_
              refine g_goto (tgt := 242) dX10_move_238 rfl ?_
              refine g_iadd (pc' := 243) dX10_move_242 rfl ?_
              refine g_putI (pc' := 246) dX10_move_243 rfl p_X10_298 rfl rfl ⟨by omega, by omega⟩ (fun M18 hM18 => ?_)
              have iM18 : IM M18 := IM.wr iM14 hM18 (by unfold okv; first | decide | omega)
              have fM18 : Fr (fun c => c = 97 ∨ c = 101 ∨ c = 104 ∨ c = 105 ∨ c = 112) M M18 := Fr.wr fM14 hM18 (by first | decide | omega | (dsimp only; omega))
              have q97_12_M18 : (M18 97 12 = M 97 12) := (show M18 97 12 = M14 97 12 by rw [hM18]; exact mu_ne _ _ (by first | decide | omega)).trans q97_12_M14
              have q97_19_M18 : (M18 97 19 = M 97 19) := (show M18 97 19 = M14 97 19 by rw [hM18]; exact mu_ne _ _ (by first | decide | omega)).trans q97_19_M14
              have q97_21_M18 : (M18 97 21 = M 97 21) := (show M18 97 21 = M14 97 21 by rw [hM18]; exact mu_ne _ _ (by first | decide | omega)).trans q97_21_M14
              have wM18_97_31 : M18 97 31 = M14 97 31 := by rw [hM18]; exact mu_ne _ _ (by first | decide | omega)
              have xM18_97_32 : M18 97 32 = v15 + 0 := by rw [hM18]; exact mu_at _ _ _ _
              have kqM18 : KQ M M18 := KQ.tr kqM14 (KQ.e (by rw [hM18, mu_cell _ _ (by decide)]))
              refine g_iload (pc' := 248) 0 dX10_move_246 rfl rfl ?_
              refine g_ireturn dX10_move_248 ?_
              exact ⟨iM18, fM18, q97_12_M18, q97_19_M18, q97_21_M18, by omega, by omega, kqM18⟩
          · refine g_iconst (pc' := 213) dX10_move_212 rfl ?_
            refine g_goto (tgt := 217) dX10_move_213 rfl ?_
            refine g_aload_n (pc' := 218) 3 dX10_move_217 rfl rfl ?_
            refine g_getL (pc' := 221) dX10_move_218 rfl f_X10_316 rfl rfl (fun v19 ev19 rv19 => ?_)
            obtain rfl : v3 = v19 := ev3.trans ev19.symm
            refine g_l2i (pc' := 222) dX10_move_221 rfl ?_
            refine g_callVi (pc' := 225) (As := [vi v9, vi (-1), vi v3]) (b := 97) (S := []) dX10_move_222 rfl m_X10_139 w_X10_spooned (c_X10_spooned X M1 ic1 v9 rv9 (-1) (by decide) v3 ⟨by omega, by omega⟩ (by omega) (by omega) (by omega)) rfl ⟨_, _, _, rfl, rfl, rfl⟩ (by decide) (by decide) rfl (Nat.le_of_ble_eq_true rfl) (fun z21 M22 q20 => ?_)
            obtain ⟨iM22, fM220, pM22⟩ := q20
            have fM22 : Fr (fun c => c = 97 ∨ c = 101 ∨ c = 104 ∨ c = 105 ∨ c = 112) M M22 := Fr.tr fr1 fM220 fi_37
            have q97_12_M22 : (M22 97 12 = M 97 12) := (congrFun (fM220 97 (by first | decide | omega | (dsimp only; omega))) 12).trans q97_12
            have q97_19_M22 : (M22 97 19 = M 97 19) := (congrFun (fM220 97 (by first | decide | omega | (dsimp only; omega))) 19).trans q97_19
            have q97_21_M22 : (M22 97 21 = M 97 21) := (congrFun (fM220 97 (by first | decide | omega | (dsimp only; omega))) 21).trans q97_21
            have wM22_97_31 : M22 97 31 = M1 97 31 := (congrFun (fM220 97 (by first | decide | omega | (dsimp only; omega))) 31)
            have wM22_97_32 : M22 97 32 = M1 97 32 := (congrFun (fM220 97 (by first | decide | omega | (dsimp only; omega))) 32)
            have kqM22 : KQ M M22 := KQ.tr (KQ.e kq1) pM22.2
            have prM22 := pM22.1
            refine g_istore (pc' := 227) (L' := [(5, vi z21), (2, vi hd), (3, vi to), (4, vi th), (0, vr X 97), (1, vi c)]) dX10_move_225 rfl (by decide) rfl ?_
            refine g_aload_n (pc' := 228) 4 dX10_move_227 rfl rfl ?_
            refine g_dup (pc' := 229) dX10_move_228 rfl rfl ?_
            refine g_getI (pc' := 232) dX10_move_229 rfl f_X10_298 rfl rfl (fun v23 ev23 rv23 => ?_)
            refine g_iload (pc' := 234) 0 dX10_move_232 rfl rfl ?_
            refine g_if_ge (pc' := 237) (tgt := 241) ⟨by omega, by omega⟩ dX10_move_234 rfl rfl (fun c24 => ?_) (fun c24 => ?_)
            · refine g_iconst (pc' := 242) dX10_move_241 rfl ?_
              refine g_iadd (pc' := 243) dX10_move_242 rfl ?_
              refine g_putI (pc' := 246) dX10_move_243 rfl p_X10_298 rfl rfl ⟨by omega, by omega⟩ (fun M25 hM25 => ?_)
              have iM25 : IM M25 := IM.wr iM22 hM25 (by unfold okv; first | decide | omega)
              have fM25 : Fr (fun c => c = 97 ∨ c = 101 ∨ c = 104 ∨ c = 105 ∨ c = 112) M M25 := Fr.wr fM22 hM25 (by first | decide | omega | (dsimp only; omega))
              have q97_12_M25 : (M25 97 12 = M 97 12) := (show M25 97 12 = M22 97 12 by rw [hM25]; exact mu_ne _ _ (by first | decide | omega)).trans q97_12_M22
              have q97_19_M25 : (M25 97 19 = M 97 19) := (show M25 97 19 = M22 97 19 by rw [hM25]; exact mu_ne _ _ (by first | decide | omega)).trans q97_19_M22
              have q97_21_M25 : (M25 97 21 = M 97 21) := (show M25 97 21 = M22 97 21 by rw [hM25]; exact mu_ne _ _ (by first | decide | omega)).trans q97_21_M22
              have wM25_97_31 : M25 97 31 = M22 97 31 := by rw [hM25]; exact mu_ne _ _ (by first | decide | omega)
              have xM25_97_32 : M25 97 32 = v23 + 1 := by rw [hM25]; exact mu_at _ _ _ _
              have kqM25 : KQ M M25 := KQ.tr kqM22 (KQ.e (by rw [hM25, mu_cell _ _ (by decide)]))
              refine g_iload (pc' := 248) 0 dX10_move_246 rfl rfl ?_
              refine g_ireturn dX10_move_248 ?_
              exact ⟨iM25, fM25, q97_12_M25, q97_19_M25, q97_21_M25, by omega, by omega, kqM25⟩
            · refine g_iconst (pc' := 238) dX10_move_237 rfl ?_
              refine g_goto (tgt := 242) dX10_move_238 rfl ?_
              refine g_iadd (pc' := 243) dX10_move_242 rfl ?_
              refine g_putI (pc' := 246) dX10_move_243 rfl p_X10_298 rfl rfl ⟨by omega, by omega⟩ (fun M26 hM26 => ?_)
              have iM26 : IM M26 := IM.wr iM22 hM26 (by unfold okv; first | decide | omega)
              have fM26 : Fr (fun c => c = 97 ∨ c = 101 ∨ c = 104 ∨ c = 105 ∨ c = 112) M M26 := Fr.wr fM22 hM26 (by first | decide | omega | (dsimp only; omega))
              have q97_12_M26 : (M26 97 12 = M 97 12) := (show M26 97 12 = M22 97 12 by rw [hM26]; exact mu_ne _ _ (by first | decide | omega)).trans q97_12_M22
              have q97_19_M26 : (M26 97 19 = M 97 19) := (show M26 97 19 = M22 97 19 by rw [hM26]; exact mu_ne _ _ (by first | decide | omega)).trans q97_19_M22
              have q97_21_M26 : (M26 97 21 = M 97 21) := (show M26 97 21 = M22 97 21 by rw [hM26]; exact mu_ne _ _ (by first | decide | omega)).trans q97_21_M22
              have wM26_97_31 : M26 97 31 = M22 97 31 := by rw [hM26]; exact mu_ne _ _ (by first | decide | omega)
              have xM26_97_32 : M26 97 32 = v23 + 0 := by rw [hM26]; exact mu_at _ _ _ _
              have kqM26 : KQ M M26 := KQ.tr kqM22 (KQ.e (by rw [hM26, mu_cell _ _ (by decide)]))
              refine g_iload (pc' := 248) 0 dX10_move_246 rfl rfl ?_
              refine g_ireturn dX10_move_248 ?_
              exact ⟨iM26, fM26, q97_12_M26, q97_19_M26, q97_21_M26, by omega, by omega, kqM26⟩
        · refine g_aload_n (pc' := 178) 3 dX10_move_177 rfl rfl ?_
          refine g_iload_n (pc' := 179) 1 dX10_move_178 rfl rfl ?_
          refine g_aload_n (pc' := 180) 3 dX10_move_179 rfl rfl ?_
          refine g_getR (pc' := 183) dX10_move_180 rfl f_X10_43 rfl rfl ?_
          refine g_iload_n (pc' := 184) 4 dX10_move_183 rfl rfl ?_
          refine g_iconst (pc' := 185) dX10_move_184 rfl ?_
          refine g_iadd (pc' := 186) dX10_move_185 rfl ?_
          refine g_iald (pc' := 187) dX10_move_186 rfl rfl (by omega) (by omega) (fun v27 ev27 rv27 => ?_)
          have gv27 : v27 = M 107 (c + 1).toNat := by rw [ev27, fr1 107 (by decide)]
          refine g_aload_n (pc' := 188) 3 dX10_move_187 rfl rfl ?_
          refine g_getL (pc' := 191) dX10_move_188 rfl f_X10_316 rfl rfl (fun v28 ev28 rv28 => ?_)
          obtain rfl : v3 = v28 := ev3.trans ev28.symm
          refine g_l2i (pc' := 192) dX10_move_191 rfl ?_
          refine g_callVi (pc' := 195) (As := [vi to, vi v27, vi v3]) (b := 97) (S := []) dX10_move_192 rfl m_X10_135 w_X10_filled (c_X10_filled X M1 ic1 to ⟨by omega, by omega⟩ v27 rv27 v3 ⟨by omega, by omega⟩ (by omega) (by omega) (by omega)) rfl ⟨_, _, _, rfl, rfl, rfl⟩ (by decide) (by decide) rfl (Nat.le_of_ble_eq_true rfl) (fun z30 M31 q29 => ?_)
          obtain ⟨iM31, fM310, pM31⟩ := q29
          have fM31 : Fr (fun c => c = 97 ∨ c = 101 ∨ c = 104 ∨ c = 105 ∨ c = 112) M M31 := Fr.tr fr1 fM310 fi_38
          have q97_12_M31 : (M31 97 12 = M 97 12) := (congrFun (fM310 97 (by first | decide | omega | (dsimp only; omega))) 12).trans q97_12
          have q97_19_M31 : (M31 97 19 = M 97 19) := (congrFun (fM310 97 (by first | decide | omega | (dsimp only; omega))) 19).trans q97_19
          have q97_21_M31 : (M31 97 21 = M 97 21) := (congrFun (fM310 97 (by first | decide | omega | (dsimp only; omega))) 21).trans q97_21
          have wM31_97_31 : M31 97 31 = M1 97 31 := (congrFun (fM310 97 (by first | decide | omega | (dsimp only; omega))) 31)
          have wM31_97_32 : M31 97 32 = M1 97 32 := (congrFun (fM310 97 (by first | decide | omega | (dsimp only; omega))) 32)
          have kqM31 : KQ M M31 := KQ.e ((fM310 104 (by decide)).trans kq1)
          refine g_goto (tgt := 225) dX10_move_195 rfl ?_
          refine g_istore (pc' := 227) (L' := [(5, vi z30), (2, vi hd), (3, vi to), (4, vi th), (0, vr X 97), (1, vi c)]) dX10_move_225 rfl (by decide) rfl ?_
          refine g_aload_n (pc' := 228) 4 dX10_move_227 rfl rfl ?_
          refine g_dup (pc' := 229) dX10_move_228 rfl rfl ?_
          refine g_getI (pc' := 232) dX10_move_229 rfl f_X10_298 rfl rfl (fun v32 ev32 rv32 => ?_)
          refine g_iload (pc' := 234) 0 dX10_move_232 rfl rfl ?_
          refine g_if_ge (pc' := 237) (tgt := 241) ⟨by omega, by omega⟩ dX10_move_234 rfl rfl (fun c33 => ?_) (fun c33 => ?_)
          · refine g_iconst (pc' := 242) dX10_move_241 rfl ?_
            refine g_iadd (pc' := 243) dX10_move_242 rfl ?_
            refine g_putI (pc' := 246) dX10_move_243 rfl p_X10_298 rfl rfl ⟨by omega, by omega⟩ (fun M34 hM34 => ?_)
            have iM34 : IM M34 := IM.wr iM31 hM34 (by unfold okv; first | decide | omega)
            have fM34 : Fr (fun c => c = 97 ∨ c = 101 ∨ c = 104 ∨ c = 105 ∨ c = 112) M M34 := Fr.wr fM31 hM34 (by first | decide | omega | (dsimp only; omega))
            have q97_12_M34 : (M34 97 12 = M 97 12) := (show M34 97 12 = M31 97 12 by rw [hM34]; exact mu_ne _ _ (by first | decide | omega)).trans q97_12_M31
            have q97_19_M34 : (M34 97 19 = M 97 19) := (show M34 97 19 = M31 97 19 by rw [hM34]; exact mu_ne _ _ (by first | decide | omega)).trans q97_19_M31
            have q97_21_M34 : (M34 97 21 = M 97 21) := (show M34 97 21 = M31 97 21 by rw [hM34]; exact mu_ne _ _ (by first | decide | omega)).trans q97_21_M31
            have wM34_97_31 : M34 97 31 = M31 97 31 := by rw [hM34]; exact mu_ne _ _ (by first | decide | omega)
            have xM34_97_32 : M34 97 32 = v32 + 1 := by rw [hM34]; exact mu_at _ _ _ _
            have kqM34 : KQ M M34 := KQ.tr kqM31 (KQ.e (by rw [hM34, mu_cell _ _ (by decide)]))
            refine g_iload (pc' := 248) 0 dX10_move_246 rfl rfl ?_
            refine g_ireturn dX10_move_248 ?_
            exact ⟨iM34, fM34, q97_12_M34, q97_19_M34, q97_21_M34, by omega, by omega, kqM34⟩
          · refine g_iconst (pc' := 238) dX10_move_237 rfl ?_
            refine g_goto (tgt := 242) dX10_move_238 rfl ?_
            refine g_iadd (pc' := 243) dX10_move_242 rfl ?_
            refine g_putI (pc' := 246) dX10_move_243 rfl p_X10_298 rfl rfl ⟨by omega, by omega⟩ (fun M35 hM35 => ?_)
            have iM35 : IM M35 := IM.wr iM31 hM35 (by unfold okv; first | decide | omega)
            have fM35 : Fr (fun c => c = 97 ∨ c = 101 ∨ c = 104 ∨ c = 105 ∨ c = 112) M M35 := Fr.wr fM31 hM35 (by first | decide | omega | (dsimp only; omega))
            have q97_12_M35 : (M35 97 12 = M 97 12) := (show M35 97 12 = M31 97 12 by rw [hM35]; exact mu_ne _ _ (by first | decide | omega)).trans q97_12_M31
            have q97_19_M35 : (M35 97 19 = M 97 19) := (show M35 97 19 = M31 97 19 by rw [hM35]; exact mu_ne _ _ (by first | decide | omega)).trans q97_19_M31
            have q97_21_M35 : (M35 97 21 = M 97 21) := (show M35 97 21 = M31 97 21 by rw [hM35]; exact mu_ne _ _ (by first | decide | omega)).trans q97_21_M31
            have wM35_97_31 : M35 97 31 = M31 97 31 := by rw [hM35]; exact mu_ne _ _ (by first | decide | omega)
            have xM35_97_32 : M35 97 32 = v32 + 0 := by rw [hM35]; exact mu_at _ _ _ _
            have kqM35 : KQ M M35 := KQ.tr kqM31 (KQ.e (by rw [hM35, mu_cell _ _ (by decide)]))
            refine g_iload (pc' := 248) 0 dX10_move_246 rfl rfl ?_
            refine g_ireturn dX10_move_248 ?_
            exact ⟨iM35, fM35, q97_12_M35, q97_19_M35, q97_21_M35, by omega, by omega, kqM35⟩
      · refine g_bipush (pc' := 171) (v := (-3)) dX10_move_169 rfl (by decide) ?_
        refine g_ireturn dX10_move_171 ?_
        exact ⟨ic1, fr1, q97_12, q97_19, q97_21, by omega, by omega, (KQ.e (kq1))⟩
set_option maxHeartbeats 4000000 in
set_option maxRecDepth 100000 in
theorem j_X10_move_59 (X : Cx) (M : Mm) (hi : IM M) (c : Int) (hc : inI c) (hc8 : 0 ≤ c ∧ c ≤ 88) (hcl : CLv (M 107) (M 108) (M 109) (M 97 21) c) (hdn : 0 ≤ M 97 32 ∧ M 97 32 ≤ 1000)  (M1 : Mm) (ic1 : IM M1) (fr1 : Fr (fun c => c = 97 ∨ c = 101 ∨ c = 104 ∨ c = 105 ∨ c = 112) M M1) (q97_12 : (M1 97 12 = M 97 12)) (q97_19 : (M1 97 19 = M 97 19)) (q97_21 : (M1 97 21 = M 97 21)) (d32 : M1 97 32 = M 97 32) (kq1 : M1 104 = M 104) : G X 4 RX10 cX10_move 6 (some .int) (Qi (fun r M1 => IM M1 ∧ Fr (fun c => c = 97 ∨ c = 101 ∨ c = 104 ∨ c = 105 ∨ c = 112) M M1 ∧ M1 97 12 = M 97 12 ∧ M1 97 19 = M 97 19 ∧ M1 97 21 = M 97 21 ∧ ((r = 0 ∨ r = -3 ∨ r = -5) ∧ (0 ≤ M1 97 32 ∧ M1 97 32 ≤ M 97 32 + 1) ∧ KQ M M1))) 59 [(0, vr X 97), (1, vi c)] [] M1 := by
  have p0 := hi.1.1
  have hcl2 := hcl
  obtain ⟨l0, l1, l2, l7, ⟨l4, l4n⟩, ⟨l6, l6n⟩⟩ := hcl2
  have l4a := l4.1
  have l6a := l6.1
  refine g_aload_n (pc' := 60) 0 dX10_move_59 rfl rfl ?_
  refine g_aload_n (pc' := 61) 0 dX10_move_60 rfl rfl ?_
  refine g_getR (pc' := 64) dX10_move_61 rfl f_X10_43 rfl rfl ?_
  refine g_iload_n (pc' := 65) 1 dX10_move_64 rfl rfl ?_
  refine g_iconst (pc' := 66) dX10_move_65 rfl ?_
  refine g_iadd (pc' := 67) dX10_move_66 rfl ?_
  refine g_iald (pc' := 68) dX10_move_67 rfl rfl (by omega) (by omega) (fun v1 ev1 rv1 => ?_)
  have gv1 : v1 = M 107 (c + 3).toNat := by rw [ev1, fr1 107 (by decide)]
  refine g_aload_n (pc' := 69) 0 dX10_move_68 rfl rfl ?_
  refine g_getR (pc' := 72) dX10_move_69 rfl f_X10_43 rfl rfl ?_
  refine g_iload_n (pc' := 73) 1 dX10_move_72 rfl rfl ?_
  refine g_iconst (pc' := 74) dX10_move_73 rfl ?_
  refine g_iadd (pc' := 75) dX10_move_74 rfl ?_
  refine g_iald (pc' := 76) dX10_move_75 rfl rfl (by omega) (by omega) (fun v2 ev2 rv2 => ?_)
  have gv2 : v2 = M 107 (c + 4).toNat := by rw [ev2, fr1 107 (by decide)]
  refine g_callVv (pc' := 79) (As := [vi v1, vi v2]) (b := 97) (S := []) dX10_move_76 rfl m_X10_319 w_X10_reckonAll (c_X10_reckonAll X M1 ic1 v1 rv1 v2 rv2 (RG.e l4 gv1 gv2 (fr1 108 (by decide)) (fr1 109 (by decide)))) rfl ⟨_, _, _, rfl, rfl, rfl⟩ (by decide) (by decide) rfl (Nat.le_of_ble_eq_true rfl) (fun M4 q3 => ?_)
  obtain ⟨iM4, fM40, eM4_97_12, eM4_97_19, eM4_97_21, eM4_97_32⟩ := q3
  have fM4 : Fr (fun c => c = 97 ∨ c = 101 ∨ c = 104 ∨ c = 105 ∨ c = 112) M M4 := Fr.tr fr1 fM40 fi_39
  have q97_12_M4 : (M4 97 12 = M 97 12) := eM4_97_12.trans q97_12
  have q97_19_M4 : (M4 97 19 = M 97 19) := eM4_97_19.trans q97_19
  have q97_21_M4 : (M4 97 21 = M 97 21) := eM4_97_21.trans q97_21
  have wM4_97_32 : M4 97 32 = M1 97 32 := eM4_97_32
  have fr4M4 : M4 104 = M 104 := (fM40 104 (by decide)).trans (kq1)
  refine g_aload_n (pc' := 80) 0 dX10_move_79 rfl rfl ?_
  refine g_getR (pc' := 83) dX10_move_80 rfl f_X10_43 rfl rfl ?_
  refine g_iload_n (pc' := 84) 1 dX10_move_83 rfl rfl ?_
  refine g_iald (pc' := 85) dX10_move_84 rfl rfl (by omega) (by omega) (fun v5 ev5 rv5 => ?_)
  have gv5 : v5 = M 107 c.toNat := by rw [ev5, fM4 107 (by decide)]
  refine g_istore_n (pc' := 86) (i := 2) (L' := [(2, vi v5), (0, vr X 97), (1, vi c)]) dX10_move_85 rfl rfl (by decide) rfl ?_
  refine g_aload_n (pc' := 87) 1 dX10_move_86 rfl rfl ?_
  refine g_getR (pc' := 90) dX10_move_87 rfl f_X10_43 rfl rfl ?_
  refine g_iload_n (pc' := 91) 2 dX10_move_90 rfl rfl ?_
  refine g_iconst (pc' := 92) dX10_move_91 rfl ?_
  refine g_iadd (pc' := 93) dX10_move_92 rfl ?_
  refine g_iald (pc' := 94) dX10_move_93 rfl rfl (by omega) (by omega) (fun v6 ev6 rv6 => ?_)
  have gv6 : v6 = M 107 (c + 2).toNat := by rw [ev6, fM4 107 (by decide)]
  refine g_istore_n (pc' := 95) (i := 3) (L' := [(3, vi v6), (2, vi v5), (0, vr X 97), (1, vi c)]) dX10_move_94 rfl rfl (by decide) rfl ?_
  refine g_iload_n (pc' := 96) 1 dX10_move_95 rfl rfl ?_
  refine g_iconst (pc' := 97) dX10_move_96 rfl ?_
  refine g_ic_ne (pc' := 100) (tgt := 108) rv5 (by decide) dX10_move_97 rfl rfl (fun c7 => ?_) (fun c7 => ?_)
  · refine g_aload_n (pc' := 109) 2 dX10_move_108 rfl rfl ?_
    refine g_aload_n (pc' := 110) 2 dX10_move_109 rfl rfl ?_
    refine g_getR (pc' := 113) dX10_move_110 rfl f_X10_43 rfl rfl ?_
    refine g_iload_n (pc' := 114) 3 dX10_move_113 rfl rfl ?_
    refine g_iconst (pc' := 115) dX10_move_114 rfl ?_
    refine g_iadd (pc' := 116) dX10_move_115 rfl ?_
    refine g_iald (pc' := 117) dX10_move_116 rfl rfl (by omega) (by omega) (fun v8 ev8 rv8 => ?_)
    have gv8 : v8 = M 107 (c + 1).toNat := by rw [ev8, fM4 107 (by decide)]
    refine g_callVip (pc' := 120) (As := [vi v8]) (b := 97) (S := []) dX10_move_117 rfl m_X10_102 w_X10_isGlass (c_X10_isGlass X M4 iM4 v8 rv8) rfl ⟨_, _, _, rfl, rfl, rfl⟩ (by decide) (by decide) rfl (Nat.le_of_ble_eq_true rfl) (fun z10 q9 => ?_)
    refine g_if_eq (pc' := 123) (tgt := 140) ⟨by omega, by omega⟩ dX10_move_120 rfl rfl (fun c11 => ?_) (fun c11 => ?_)
    · replace q9 := q9.resolve_left (fun h => absurd (c11.symm.trans h.1) (by decide))
      refine g_iconst (pc' := 141) dX10_move_140 rfl ?_
      refine g_istore (pc' := 143) (L' := [(4, vi 0), (3, vi v6), (2, vi v5), (0, vr X 97), (1, vi c)]) dX10_move_141 rfl (by decide) rfl ?_
      refine g_sub [2, 1, 0, 3, 4] rfl ?_
      exact j_X10_move_143 X M hi c hc hc8 hcl hdn v5 v6 0 M4 iM4 fM4 q97_12_M4 q97_19_M4 q97_21_M4 (by omega) (fr4M4) (by omega) (by omega)
    · replace q9 := q9.resolve_right (fun h => c11 h.1)
      refine g_iload_n (pc' := 124) 1 dX10_move_123 rfl rfl ?_
      refine g_iconst (pc' := 125) dX10_move_124 rfl ?_
      refine g_ic_eq (pc' := 128) (tgt := 136) rv5 (by decide) dX10_move_125 rfl rfl (fun c12 => ?_) (fun c12 => ?_)
      · refine g_iconst (pc' := 137) dX10_move_136 rfl ?_
        refine g_goto (tgt := 141) dX10_move_137 rfl ?_
        refine g_istore (pc' := 143) (L' := [(4, vi 1), (3, vi v6), (2, vi v5), (0, vr X 97), (1, vi c)]) dX10_move_141 rfl (by decide) rfl ?_
        refine g_sub [2, 1, 0, 3, 4] rfl ?_
        exact j_X10_move_143 X M hi c hc hc8 hcl hdn v5 v6 1 M4 iM4 fM4 q97_12_M4 q97_19_M4 q97_21_M4 (by omega) (fr4M4) (by omega) (by omega)
      · refine g_aload_n (pc' := 129) 2 dX10_move_128 rfl rfl ?_
        refine g_iload_n (pc' := 130) 0 dX10_move_129 rfl rfl ?_
        refine g_callVip (pc' := 133) (As := [vi v6]) (b := 97) (S := []) dX10_move_130 rfl m_X10_102 w_X10_isGlass (c_X10_isGlass X M4 iM4 v6 rv6) rfl ⟨_, _, _, rfl, rfl, rfl⟩ (by decide) (by decide) rfl (Nat.le_of_ble_eq_true rfl) (fun z14 q13 => ?_)
        refine g_if_eq (pc' := 136) (tgt := 140) ⟨by omega, by omega⟩ dX10_move_133 rfl rfl (fun c15 => ?_) (fun c15 => ?_)
        · replace q13 := q13.resolve_left (fun h => absurd (c15.symm.trans h.1) (by decide))
          refine g_iconst (pc' := 141) dX10_move_140 rfl ?_
          refine g_istore (pc' := 143) (L' := [(4, vi 0), (3, vi v6), (2, vi v5), (0, vr X 97), (1, vi c)]) dX10_move_141 rfl (by decide) rfl ?_
          refine g_sub [2, 1, 0, 3, 4] rfl ?_
          exact j_X10_move_143 X M hi c hc hc8 hcl hdn v5 v6 0 M4 iM4 fM4 q97_12_M4 q97_19_M4 q97_21_M4 (by omega) (fr4M4) (by omega) (by omega)
        · replace q13 := q13.resolve_right (fun h => c15 h.1)
          refine g_iconst (pc' := 137) dX10_move_136 rfl ?_
          refine g_goto (tgt := 141) dX10_move_137 rfl ?_
          refine g_istore (pc' := 143) (L' := [(4, vi 1), (3, vi v6), (2, vi v5), (0, vr X 97), (1, vi c)]) dX10_move_141 rfl (by decide) rfl ?_
          refine g_sub [2, 1, 0, 3, 4] rfl ?_
          exact j_X10_move_143 X M hi c hc hc8 hcl hdn v5 v6 1 M4 iM4 fM4 q97_12_M4 q97_19_M4 q97_21_M4 (by omega) (fr4M4) (by omega) (by omega)
  · refine g_aload_n (pc' := 101) 2 dX10_move_100 rfl rfl ?_
    refine g_iload_n (pc' := 102) 0 dX10_move_101 rfl rfl ?_
    refine g_callVip (pc' := 105) (As := [vi v6]) (b := 97) (S := []) dX10_move_102 rfl m_X10_102 w_X10_isGlass (c_X10_isGlass X M4 iM4 v6 rv6) rfl ⟨_, _, _, rfl, rfl, rfl⟩ (by decide) (by decide) rfl (Nat.le_of_ble_eq_true rfl) (fun z17 q16 => ?_)
    refine g_goto (tgt := 141) dX10_move_105 rfl ?_
    refine g_istore (pc' := 143) (L' := [(4, vi z17), (3, vi v6), (2, vi v5), (0, vr X 97), (1, vi c)]) dX10_move_141 rfl (by decide) rfl ?_
    refine g_sub [2, 1, 0, 3, 4] rfl ?_
    exact j_X10_move_143 X M hi c hc hc8 hcl hdn v5 v6 z17 M4 iM4 fM4 q97_12_M4 q97_19_M4 q97_21_M4 (by omega) (fr4M4) (by omega) (by omega)
set_option maxHeartbeats 4000000 in
set_option maxRecDepth 100000 in
theorem c_X10_move (X : Cx) (M : Mm) (hi : IM M) (c : Int) (hc : inI c) (hc8 : 0 ≤ c ∧ c ≤ 88) (hcl : CLv (M 107) (M 108) (M 109) (M 97 21) c) (hdn : 0 ≤ M 97 32 ∧ M 97 32 ≤ 1000) : Con X 4 yX10_move cX10_move 6 (some .int) [vr X 97, vi c] M (Qi (fun r M1 => IM M1 ∧ Fr (fun c => c = 97 ∨ c = 101 ∨ c = 104 ∨ c = 105 ∨ c = 112) M M1 ∧ M1 97 12 = M 97 12 ∧ M1 97 19 = M 97 19 ∧ M1 97 21 = M 97 21 ∧ ((r = 0 ∨ r = -3 ∨ r = -5) ∧ (0 ≤ M1 97 32 ∧ M1 97 32 ≤ M 97 32 + 1) ∧ KQ M M1))) := by
  refine Con.ofG rfl (Nat.le_of_ble_eq_true rfl) ?_
  show G X 4 RX10 cX10_move 6 (some .int) (Qi (fun r M1 => IM M1 ∧ Fr (fun c => c = 97 ∨ c = 101 ∨ c = 104 ∨ c = 105 ∨ c = 112) M M1 ∧ M1 97 12 = M 97 12 ∧ M1 97 19 = M 97 19 ∧ M1 97 21 = M 97 21 ∧ ((r = 0 ∨ r = -3 ∨ r = -5) ∧ (0 ≤ M1 97 32 ∧ M1 97 32 ≤ M 97 32 + 1) ∧ KQ M M1))) 0 [(0, vr X 97), (1, vi c)] [] M
  have p0 := hi.1.1
  have hcl2 := hcl
  obtain ⟨l0, l1, l2, l7, ⟨l4, l4n⟩, ⟨l6, l6n⟩⟩ := hcl2
  have l4a := l4.1
  have l6a := l6.1
  refine g_aload_n (pc' := 1) 0 dX10_move_0 rfl rfl ?_
  refine g_getR (pc' := 4) dX10_move_1 rfl f_X10_43 rfl rfl ?_
  refine g_iload_n (pc' := 5) 1 dX10_move_4 rfl rfl ?_
  refine g_iconst (pc' := 6) dX10_move_5 rfl ?_
  refine g_iadd (pc' := 7) dX10_move_6 rfl ?_
  refine g_iald (pc' := 8) dX10_move_7 rfl rfl (by omega) (by omega) (fun v1 ev1 rv1 => ?_)
  have gv1 : v1 = M 107 (c + 5).toNat := ev1
  refine g_aload_n (pc' := 9) 0 dX10_move_8 rfl rfl ?_
  refine g_getR (pc' := 12) dX10_move_9 rfl f_X10_43 rfl rfl ?_
  refine g_iload_n (pc' := 13) 1 dX10_move_12 rfl rfl ?_
  refine g_bipush (pc' := 15) (v := 6) dX10_move_13 rfl (by decide) ?_
  refine g_iadd (pc' := 16) dX10_move_15 rfl ?_
  refine g_iald (pc' := 17) dX10_move_16 rfl rfl (by omega) (by omega) (fun v2 ev2 rv2 => ?_)
  have gv2 : v2 = M 107 (c + 6).toNat := ev2
  refine g_ic_ge (pc' := 20) (tgt := 59) rv1 rv2 dX10_move_17 rfl rfl (fun c3 => ?_) (fun c3 => ?_)
  · refine g_sub [0, 1] rfl ?_
    exact j_X10_move_59 X M hi c hc hc8 hcl hdn M hi Fr.rf rfl rfl rfl (by omega) (rfl)
  · refine g_aload_n (pc' := 21) 0 dX10_move_20 rfl rfl ?_
    refine g_aload_n (pc' := 22) 0 dX10_move_21 rfl rfl ?_
    refine g_getR (pc' := 25) dX10_move_22 rfl f_X10_43 rfl rfl ?_
    refine g_iload_n (pc' := 26) 1 dX10_move_25 rfl rfl ?_
    refine g_iconst (pc' := 27) dX10_move_26 rfl ?_
    refine g_iadd (pc' := 28) dX10_move_27 rfl ?_
    refine g_iald (pc' := 29) dX10_move_28 rfl rfl (by omega) (by omega) (fun v4 ev4 rv4 => ?_)
    obtain rfl : v1 = v4 := ev1.trans ev4.symm
    refine g_aload_n (pc' := 30) 0 dX10_move_29 rfl rfl ?_
    refine g_getR (pc' := 33) dX10_move_30 rfl f_X10_43 rfl rfl ?_
    refine g_iload_n (pc' := 34) 1 dX10_move_33 rfl rfl ?_
    refine g_bipush (pc' := 36) (v := 6) dX10_move_34 rfl (by decide) ?_
    refine g_iadd (pc' := 37) dX10_move_36 rfl ?_
    refine g_iald (pc' := 38) dX10_move_37 rfl rfl (by omega) (by omega) (fun v5 ev5 rv5 => ?_)
    obtain rfl : v2 = v5 := ev2.trans ev5.symm
    refine g_callVv (pc' := 41) (As := [vi v1, vi v2]) (b := 97) (S := []) dX10_move_38 rfl m_X10_319 w_X10_reckonAll (c_X10_reckonAll X M hi v1 rv1 v2 rv2 (RG.e l6 gv1 gv2 rfl rfl)) rfl ⟨_, _, _, rfl, rfl, rfl⟩ (by decide) (by decide) rfl (Nat.le_of_ble_eq_true rfl) (fun M7 q6 => ?_)
    obtain ⟨iM7, fM70, eM7_97_12, eM7_97_19, eM7_97_21, eM7_97_32⟩ := q6
    have fM7 : Fr (fun c => c = 97 ∨ c = 101 ∨ c = 104 ∨ c = 105 ∨ c = 112) M M7 := Fr.tr Fr.rf fM70 fi_39
    have q97_12_M7 : (M7 97 12 = M 97 12) := eM7_97_12
    have q97_19_M7 : (M7 97 19 = M 97 19) := eM7_97_19
    have q97_21_M7 : (M7 97 21 = M 97 21) := eM7_97_21
    have wM7_97_32 : M7 97 32 = M 97 32 := eM7_97_32
    have fr4M7 : M7 104 = M 104 := (fM70 104 (by decide)).trans (rfl)
    refine g_aload_n (pc' := 42) 0 dX10_move_41 rfl rfl ?_
    refine g_getI (pc' := 45) dX10_move_42 rfl f_X10_301 rfl rfl (fun v8 ev8 rv8 => ?_)
    refine g_if_ne (pc' := 48) (tgt := 57) rv8 dX10_move_45 rfl rfl (fun c9 => ?_) (fun c9 => ?_)
    · refine g_iconst (pc' := 58) dX10_move_57 rfl ?_
      refine g_ireturn dX10_move_58 ?_
      exact ⟨iM7, fM7, q97_12_M7, q97_19_M7, q97_21_M7, by omega, by omega, (KQ.e (fr4M7))⟩
    · refine g_aload_n (pc' := 49) 0 dX10_move_48 rfl rfl ?_
      refine g_getL (pc' := 52) dX10_move_49 rfl f_X10_316 rfl rfl (fun v10 ev10 rv10 => ?_)
      refine g_lconst (pc' := 53) (v := 0) dX10_move_52 rfl (by decide) ?_
      refine g_lc_ne (pc' := 57) (tgt := 59) rv10 (by decide) dX10_move_53 dX10_move_54 rfl rfl (fun c11 => ?_) (fun c11 => ?_)
      · refine g_sub [0, 1] rfl ?_
        exact j_X10_move_59 X M hi c hc hc8 hcl hdn M7 iM7 fM7 q97_12_M7 q97_19_M7 q97_21_M7 (by omega) (fr4M7)
      · refine g_iconst (pc' := 58) dX10_move_57 rfl ?_
        refine g_ireturn dX10_move_58 ?_
        exact ⟨iM7, fM7, q97_12_M7, q97_19_M7, q97_21_M7, by omega, by omega, (KQ.e (fr4M7))⟩
