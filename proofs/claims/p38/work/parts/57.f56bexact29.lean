set_option maxHeartbeats 4000000 in
set_option maxRecDepth 100000 in
theorem c_X10_partOf_z (X : Cx) (M : Mm) (hi : IM M) (op : Int) (hop : inI op) (ag : Int) (hag : inI ag) (hop5 : 1 ≤ op ∧ op ≤ 4) (hag2 : 0 ≤ ag ∧ ag ≤ 23) : Con X 2 yX10_partOf cX10_partOf 4 (some .long) [vr X 97, vi op, vi ag] M (Ql (fun r M1 => M1 = M ∧ (inI r ∧ r = (evE (M 99 0) (M 97 32) (M 101) (fun j => M 99 (4 + j))) op ag))) := by
  refine Con.ofG rfl (Nat.le_of_ble_eq_true rfl) ?_
  show G X 2 RX10 cX10_partOf 4 (some .long) (Ql (fun r M1 => M1 = M ∧ (inI r ∧ r = (evE (M 99 0) (M 97 32) (M 101) (fun j => M 99 (4 + j))) op ag))) 0 [(0, vr X 97), (1, vi op), (2, vi ag)] [] M
  have p0 := hi.1.1
  have p1 := hi.1.2.1
  have p2 := hi.1.2.2.1
  have p3 := hi.1.2.2.2.1
  have p12 := hi.2.2.2.1
  refine g_iload_n (pc' := 1) 2 dX10_partOf_0 rfl rfl ?_
  refine g_bipush (pc' := 3) (v := 6) dX10_partOf_1 rfl (by decide) ?_
  refine g_iremP (pc' := 4) hag (by decide) (by omega) (by omega) dX10_partOf_3 rfl ?_
  refine g_istore_n (pc' := 5) (i := 3) (L' := [(3, vi (ag % 6)), (0, vr X 97), (1, vi op), (2, vi ag)]) dX10_partOf_4 rfl rfl (by decide) rfl ?_
  refine g_iload_n (pc' := 6) 2 dX10_partOf_5 rfl rfl ?_
  refine g_iconst (pc' := 7) dX10_partOf_6 rfl ?_
  refine g_ic_ne (pc' := 10) (tgt := 18) hop (by decide) dX10_partOf_7 rfl rfl (fun c1 => ?_) (fun c1 => ?_)
  · refine g_aload_n (pc' := 19) 1 dX10_partOf_18 rfl rfl ?_
    refine g_iload_n (pc' := 20) 0 dX10_partOf_19 rfl rfl ?_
    refine g_callVip (pc' := 23) (As := [vi (ag % 6)]) (b := 97) (S := []) dX10_partOf_20 rfl m_X10_102 w_X10_isGlass (c_X10_isGlass X M hi (ag % 6) ⟨by omega, by omega⟩) rfl ⟨_, _, _, rfl, rfl, rfl⟩ (by decide) (by decide) rfl (Nat.le_of_ble_eq_true rfl) (fun z3 q2 => ?_)
    refine g_if_ne (pc' := 26) (tgt := 30) ⟨by omega, by omega⟩ dX10_partOf_23 rfl rfl (fun c4 => ?_) (fun c4 => ?_)
    · replace q2 := q2.resolve_right (fun h => c4 h.1)
      refine g_iload_n (pc' := 31) 2 dX10_partOf_30 rfl rfl ?_
      refine g_iconst (pc' := 32) dX10_partOf_31 rfl ?_
      refine g_ic_ne (pc' := 35) (tgt := 44) hop (by decide) dX10_partOf_32 rfl rfl (fun c5 => ?_) (fun c5 => ?_)
      · refine g_iload_n (pc' := 45) 2 dX10_partOf_44 rfl rfl ?_
        refine g_iconst (pc' := 46) dX10_partOf_45 rfl ?_
        refine g_ic_ne (pc' := 49) (tgt := 61) hop (by decide) dX10_partOf_46 rfl rfl (fun c6 => ?_) (fun c6 => ?_)
        · refine g_aload_n (pc' := 62) 1 dX10_partOf_61 rfl rfl ?_
          refine g_iload_n (pc' := 63) 0 dX10_partOf_62 rfl rfl ?_
          refine g_iload_n (pc' := 64) 3 dX10_partOf_63 rfl rfl ?_
          refine g_bipush (pc' := 66) (v := 6) dX10_partOf_64 rfl (by decide) ?_
          refine g_idivP (pc' := 67) hag (by decide) (by omega) (by omega) dX10_partOf_66 rfl ?_
          refine g_callVip (pc' := 70) (As := [vi (ag % 6), vi (ag / 6)]) (b := 97) (S := []) dX10_partOf_67 rfl m_X10_112 w_X10_tasteOf (c_X10_tasteOf_x X M hi (ag % 6) ⟨by omega, by omega⟩ (ag / 6) ⟨by omega, by omega⟩ (by omega) (by omega)) rfl ⟨_, _, _, rfl, rfl, rfl⟩ (by decide) (by decide) rfl (Nat.le_of_ble_eq_true rfl) (fun z8 q7 => ?_)
          refine g_i2l (pc' := 71) ⟨by omega, by omega⟩ dX10_partOf_70 rfl ?_
          refine g_lreturn dX10_partOf_71 ?_
          have fq := q7.1
          exact ⟨rfl, ⟨by omega, by omega⟩, evE_p3 (g := ag % 6) (by omega) (by omega) (by omega) (by omega) q7.2⟩
        · refine g_aload_n (pc' := 50) 1 dX10_partOf_49 rfl rfl ?_
          refine g_getR (pc' := 53) dX10_partOf_50 rfl f_X10_13 rfl rfl ?_
          refine g_iconst (pc' := 54) dX10_partOf_53 rfl ?_
          refine g_iload_n (pc' := 55) 0 dX10_partOf_54 rfl rfl ?_
          refine g_iadd (pc' := 56) dX10_partOf_55 rfl ?_
          refine g_iald (pc' := 57) dX10_partOf_56 rfl rfl (by omega) (by omega) (fun v9 ev9 rv9 => ?_)
          have dv9 : 0 ≤ v9 ∧ v9 ≤ 60 := by rw [ev9]; exact hi.1.sz (by omega) (by omega)
          refine g_i2l (pc' := 58) rv9 dX10_partOf_57 rfl ?_
          refine g_goto (tgt := 71) dX10_partOf_58 rfl ?_
          refine g_lreturn dX10_partOf_71 ?_
          exact ⟨rfl, ⟨by omega, by omega⟩, evE_p2 (g := ag % 6) (by omega) (by omega) (by omega) (by omega) (by show v9 = M 99 (4 + (ag % 6).toNat); rw [ev9]; congr 1; omega)⟩
      · refine g_aload_n (pc' := 36) 1 dX10_partOf_35 rfl rfl ?_
        refine g_iload_n (pc' := 37) 0 dX10_partOf_36 rfl rfl ?_
        refine g_callVip (pc' := 40) (As := [vi (ag % 6)]) (b := 97) (S := []) dX10_partOf_37 rfl m_X10_99 w_X10_full (c_X10_full X M hi (ag % 6) ⟨by omega, by omega⟩ ⟨by omega, by omega⟩) rfl ⟨_, _, _, rfl, rfl, rfl⟩ (by decide) (by decide) rfl (Nat.le_of_ble_eq_true rfl) (fun z11 q10 => ?_)
        refine g_i2l (pc' := 41) ⟨by omega, by omega⟩ dX10_partOf_40 rfl ?_
        refine g_goto (tgt := 71) dX10_partOf_41 rfl ?_
        refine g_lreturn dX10_partOf_71 ?_
        have fe := flm_at (m := M 101) (g := (ag % 6).toNat) (f := z11) hi.2.1.1.1 (by unfold sm4; exact q10.2.symm)
        have fq := q10.1
        exact ⟨rfl, ⟨by omega, by omega⟩, evE_p1 (g := ag % 6) (by omega) (by omega) (by omega) (by omega) fe.symm⟩
    · replace q2 := q2.resolve_left (fun h => absurd (c4.symm.trans h.1) (by decide))
      refine g_lconst (pc' := 27) (v := 0) dX10_partOf_26 rfl (by decide) ?_
      refine g_goto (tgt := 71) dX10_partOf_27 rfl ?_
      refine g_lreturn dX10_partOf_71 ?_
      exact ⟨rfl, ⟨by omega, by omega⟩, evE_p0 (g := ag % 6) (by omega) (by omega) (by omega) rfl⟩
  · refine g_aload_n (pc' := 11) 1 dX10_partOf_10 rfl rfl ?_
    refine g_getI (pc' := 14) dX10_partOf_11 rfl f_X10_298 rfl rfl (fun v12 ev12 rv12 => ?_)
    refine g_i2l (pc' := 15) rv12 dX10_partOf_14 rfl ?_
    refine g_goto (tgt := 71) dX10_partOf_15 rfl ?_
    refine g_lreturn dX10_partOf_71 ?_
    exact ⟨rfl, ⟨by omega, by omega⟩, evE_p4 (by omega) (by omega)⟩
set_option maxHeartbeats 4000000 in
set_option maxRecDepth 100000 in
theorem c_X10_reckon_z (X : Cx) (M : Mm) (hi : IM M) (op : Int) (hop : inI op) (a : Int) (ha : inL a) (b : Int) (hb : inL b) (hopr : 20 ≤ op ∧ op ≤ 26) (pa : -2147484648 ≤ a ∧ a ≤ 2147484648) (pb : -2147484648 ≤ b ∧ b ≤ 2147484648) (h30 : M 97 30 = 0) : Con X 0 yX10_reckon cX10_reckon 6 (some .long) [vr X 97, vi op, vl a, vl b] M (Ql (fun r M1 => IM M1 ∧ Fr (fun c => c = 97) M M1 ∧ M1 97 12 = M 97 12 ∧ M1 97 19 = M 97 19 ∧ M1 97 21 = M 97 21 ∧ M1 97 32 = M 97 32 ∧ M1 97 17 = M 97 17 ∧ M1 97 33 = M 97 33 ∧ M1 97 10 = M 97 10 ∧ M1 97 44 = M 97 44 ∧ (inL r ∧ (M1 97 30 = 0 ∨ M1 97 30 = 1) ∧ (M1 97 30 = 0 → opV op a b = okV r) ∧ (M1 97 30 ≠ 0 → opV op a b = none)))) := by
  refine Con.ofG rfl (Nat.le_of_ble_eq_true rfl) ?_
  show G X 0 RX10 cX10_reckon 6 (some .long) (Ql (fun r M1 => IM M1 ∧ Fr (fun c => c = 97) M M1 ∧ M1 97 12 = M 97 12 ∧ M1 97 19 = M 97 19 ∧ M1 97 21 = M 97 21 ∧ M1 97 32 = M 97 32 ∧ M1 97 17 = M 97 17 ∧ M1 97 33 = M 97 33 ∧ M1 97 10 = M 97 10 ∧ M1 97 44 = M 97 44 ∧ (inL r ∧ (M1 97 30 = 0 ∨ M1 97 30 = 1) ∧ (M1 97 30 = 0 → opV op a b = okV r) ∧ (M1 97 30 ≠ 0 → opV op a b = none)))) 0 [(0, vr X 97), (1, vi op), (2, vl a), (4, vl b)] [] M
  have mb := mulBR pa pb
  have db := tdivBR (b := b) pa
  refine g_iload_n (pc' := 1) 1 dX10_reckon_0 rfl rfl ?_
  by_cases c1 : op = 20
  · refine g_tabIn (tgt := 40) (off := 39) hop dX10_reckon_1 (by omega) (by omega) (by rw [c1]; rfl) rfl ?_
    refine g_lload_n (pc' := 41) 2 dX10_reckon_40 rfl rfl ?_
    refine g_lload (pc' := 43) 3 dX10_reckon_41 rfl rfl ?_
    refine g_ladd (pc' := 44) dX10_reckon_43 rfl ?_
    refine g_lreturn dX10_reckon_44 ?_
    exact ⟨hi, Fr.rf, rfl, rfl, rfl, rfl, rfl, rfl, rfl, rfl, ⟨by omega, by omega⟩, by omega, fun _ => by unfold opV; rw [if_pos (by omega)], fun z => absurd z (by omega)⟩
  by_cases c2 : op = 21
  · refine g_tabIn (tgt := 45) (off := 44) hop dX10_reckon_1 (by omega) (by omega) (by rw [c2]; rfl) rfl ?_
    refine g_lload_n (pc' := 46) 2 dX10_reckon_45 rfl rfl ?_
    refine g_lload (pc' := 48) 3 dX10_reckon_46 rfl rfl ?_
    refine g_lsub (pc' := 49) dX10_reckon_48 rfl ?_
    refine g_lreturn dX10_reckon_49 ?_
    exact ⟨hi, Fr.rf, rfl, rfl, rfl, rfl, rfl, rfl, rfl, rfl, ⟨by omega, by omega⟩, by omega, fun _ => by unfold opV; rw [if_neg (by omega), if_pos (by omega)], fun z => absurd z (by omega)⟩
  by_cases c3 : op = 22
  · refine g_tabIn (tgt := 50) (off := 49) hop dX10_reckon_1 (by omega) (by omega) (by rw [c3]; rfl) rfl ?_
    refine g_lload_n (pc' := 51) 2 dX10_reckon_50 rfl rfl ?_
    refine g_lload (pc' := 53) 3 dX10_reckon_51 rfl rfl ?_
    refine g_lmul (pc' := 54) dX10_reckon_53 rfl ?_
    refine g_lreturn dX10_reckon_54 ?_
    exact ⟨hi, Fr.rf, rfl, rfl, rfl, rfl, rfl, rfl, rfl, rfl, ⟨by omega, by omega⟩, by omega, fun _ => by unfold opV; rw [if_neg (by omega), if_neg (by omega), if_pos (by omega)], fun z => absurd z (by omega)⟩
  by_cases c4 : op = 23
  · refine g_tabIn (tgt := 55) (off := 54) hop dX10_reckon_1 (by omega) (by omega) (by rw [c4]; rfl) rfl ?_
    refine g_aload_n (pc' := 56) 0 dX10_reckon_55 rfl rfl ?_
    refine g_lload (pc' := 58) 3 dX10_reckon_56 rfl rfl ?_
    refine g_lconst (pc' := 59) (v := 0) dX10_reckon_58 rfl (by decide) ?_
    refine g_lc_ne (pc' := 63) (tgt := 67) hb (by decide) dX10_reckon_59 dX10_reckon_60 rfl rfl (fun c5 => ?_) (fun c5 => ?_)
    · refine g_iconst (pc' := 68) dX10_reckon_67 rfl ?_
      refine g_putZ (pc' := 71) dX10_reckon_68 rfl p_X10_301 rfl rfl (by omega) (fun M6 hM6 => ?_)
      have iM6 : IM M6 := IM.wr hi hM6 (by unfold okv; first | decide | omega)
      have fM6 : Fr (fun c => c = 97) M M6 := Fr.wr Fr.rf hM6 (by first | decide | omega | (dsimp only; omega))
      have q97_12_M6 : (M6 97 12 = M 97 12) := (show M6 97 12 = M 97 12 by rw [hM6]; exact mu_ne _ _ (by first | decide | omega))
      have q97_19_M6 : (M6 97 19 = M 97 19) := (show M6 97 19 = M 97 19 by rw [hM6]; exact mu_ne _ _ (by first | decide | omega))
      have q97_21_M6 : (M6 97 21 = M 97 21) := (show M6 97 21 = M 97 21 by rw [hM6]; exact mu_ne _ _ (by first | decide | omega))
      have q97_32_M6 : (M6 97 32 = M 97 32) := (show M6 97 32 = M 97 32 by rw [hM6]; exact mu_ne _ _ (by first | decide | omega))
      have q97_17_M6 : (M6 97 17 = M 97 17) := (show M6 97 17 = M 97 17 by rw [hM6]; exact mu_ne _ _ (by first | decide | omega))
      have q97_33_M6 : (M6 97 33 = M 97 33) := (show M6 97 33 = M 97 33 by rw [hM6]; exact mu_ne _ _ (by first | decide | omega))
      have q97_10_M6 : (M6 97 10 = M 97 10) := (show M6 97 10 = M 97 10 by rw [hM6]; exact mu_ne _ _ (by first | decide | omega))
      have q97_44_M6 : (M6 97 44 = M 97 44) := (show M6 97 44 = M 97 44 by rw [hM6]; exact mu_ne _ _ (by first | decide | omega))
      have xM6_97_30 : M6 97 30 = 0 := by rw [hM6]; exact mu_at _ _ _ _
      refine g_aload_n (pc' := 72) 0 dX10_reckon_71 rfl rfl ?_
      refine g_getI (pc' := 75) dX10_reckon_72 rfl f_X10_301 rfl rfl (fun v7 ev7 rv7 => ?_)
      have yv7 : v7 = 0 := ev7.trans xM6_97_30
      refine g_if_eq (pc' := 78) (tgt := 82) rv7 dX10_reckon_75 rfl rfl (fun c8 => ?_) (fun c8 => ?_)
      · refine g_lload_n (pc' := 83) 2 dX10_reckon_82 rfl rfl ?_
        refine g_lload (pc' := 85) 3 dX10_reckon_83 rfl rfl ?_
        refine g_ldiv (pc' := 86) ha hb (by omega) dX10_reckon_85 rfl ?_
        refine g_lreturn dX10_reckon_86 ?_
        exact ⟨iM6, fM6, q97_12_M6, q97_19_M6, q97_21_M6, q97_32_M6, q97_17_M6, q97_33_M6, q97_10_M6, q97_44_M6, ⟨by omega, by omega⟩, by omega, fun _ => by unfold opV; rw [if_neg (by omega), if_neg (by omega), if_neg (by omega), if_pos (by omega), if_neg (by omega)], fun z => absurd z (by omega)⟩
      · refine g_lconst (pc' := 79) (v := 0) dX10_reckon_78 rfl (by decide) ?_
        refine g_goto (tgt := 86) dX10_reckon_79 rfl ?_
        refine g_lreturn dX10_reckon_86 ?_
        exact ⟨iM6, fM6, q97_12_M6, q97_19_M6, q97_21_M6, q97_32_M6, q97_17_M6, q97_33_M6, q97_10_M6, q97_44_M6, ⟨by omega, by omega⟩, by omega, fun z => absurd z (by omega), fun _ => by unfold opV; rw [if_neg (by omega), if_neg (by omega), if_neg (by omega), if_pos (by omega), if_pos (by omega)]⟩
    · refine g_iconst (pc' := 64) dX10_reckon_63 rfl ?_
      refine g_goto (tgt := 68) dX10_reckon_64 rfl ?_
      refine g_putZ (pc' := 71) dX10_reckon_68 rfl p_X10_301 rfl rfl (by omega) (fun M9 hM9 => ?_)
      have iM9 : IM M9 := IM.wr hi hM9 (by unfold okv; first | decide | omega)
      have fM9 : Fr (fun c => c = 97) M M9 := Fr.wr Fr.rf hM9 (by first | decide | omega | (dsimp only; omega))
      have q97_12_M9 : (M9 97 12 = M 97 12) := (show M9 97 12 = M 97 12 by rw [hM9]; exact mu_ne _ _ (by first | decide | omega))
      have q97_19_M9 : (M9 97 19 = M 97 19) := (show M9 97 19 = M 97 19 by rw [hM9]; exact mu_ne _ _ (by first | decide | omega))
      have q97_21_M9 : (M9 97 21 = M 97 21) := (show M9 97 21 = M 97 21 by rw [hM9]; exact mu_ne _ _ (by first | decide | omega))
      have q97_32_M9 : (M9 97 32 = M 97 32) := (show M9 97 32 = M 97 32 by rw [hM9]; exact mu_ne _ _ (by first | decide | omega))
      have q97_17_M9 : (M9 97 17 = M 97 17) := (show M9 97 17 = M 97 17 by rw [hM9]; exact mu_ne _ _ (by first | decide | omega))
      have q97_33_M9 : (M9 97 33 = M 97 33) := (show M9 97 33 = M 97 33 by rw [hM9]; exact mu_ne _ _ (by first | decide | omega))
      have q97_10_M9 : (M9 97 10 = M 97 10) := (show M9 97 10 = M 97 10 by rw [hM9]; exact mu_ne _ _ (by first | decide | omega))
      have q97_44_M9 : (M9 97 44 = M 97 44) := (show M9 97 44 = M 97 44 by rw [hM9]; exact mu_ne _ _ (by first | decide | omega))
      have xM9_97_30 : M9 97 30 = 1 := by rw [hM9]; exact mu_at _ _ _ _
      refine g_aload_n (pc' := 72) 0 dX10_reckon_71 rfl rfl ?_
      refine g_getI (pc' := 75) dX10_reckon_72 rfl f_X10_301 rfl rfl (fun v10 ev10 rv10 => ?_)
      have yv10 : v10 = 1 := ev10.trans xM9_97_30
      refine g_if_eq (pc' := 78) (tgt := 82) rv10 dX10_reckon_75 rfl rfl (fun c11 => ?_) (fun c11 => ?_)
      · refine g_lload_n (pc' := 83) 2 dX10_reckon_82 rfl rfl ?_
        refine g_lload (pc' := 85) 3 dX10_reckon_83 rfl rfl ?_
        refine g_ldiv (pc' := 86) ha hb (by omega) dX10_reckon_85 rfl ?_
        refine g_lreturn dX10_reckon_86 ?_
        exact ⟨iM9, fM9, q97_12_M9, q97_19_M9, q97_21_M9, q97_32_M9, q97_17_M9, q97_33_M9, q97_10_M9, q97_44_M9, ⟨by omega, by omega⟩, by omega, fun _ => by unfold opV; rw [if_neg (by omega), if_neg (by omega), if_neg (by omega), if_pos (by omega), if_neg (by omega)], fun z => absurd z (by omega)⟩
      · refine g_lconst (pc' := 79) (v := 0) dX10_reckon_78 rfl (by decide) ?_
        refine g_goto (tgt := 86) dX10_reckon_79 rfl ?_
        refine g_lreturn dX10_reckon_86 ?_
        exact ⟨iM9, fM9, q97_12_M9, q97_19_M9, q97_21_M9, q97_32_M9, q97_17_M9, q97_33_M9, q97_10_M9, q97_44_M9, ⟨by omega, by omega⟩, by omega, fun z => absurd z (by omega), fun _ => by unfold opV; rw [if_neg (by omega), if_neg (by omega), if_neg (by omega), if_pos (by omega), if_pos (by omega)]⟩
  by_cases c12 : op = 24
  · refine g_tabIn (tgt := 87) (off := 86) hop dX10_reckon_1 (by omega) (by omega) (by rw [c12]; rfl) rfl ?_
    refine g_lload_n (pc' := 88) 2 dX10_reckon_87 rfl rfl ?_
    refine g_lload (pc' := 90) 3 dX10_reckon_88 rfl rfl ?_
    refine g_lc_ge (pc' := 94) (tgt := 98) ha hb dX10_reckon_90 dX10_reckon_91 rfl rfl (fun c13 => ?_) (fun c13 => ?_)
    · refine g_lconst (pc' := 99) (v := 0) dX10_reckon_98 rfl (by decide) ?_
      refine g_lreturn dX10_reckon_99 ?_
      exact ⟨hi, Fr.rf, rfl, rfl, rfl, rfl, rfl, rfl, rfl, rfl, ⟨by decide, by decide⟩, by omega, fun _ => by unfold opV; rw [if_neg (by omega), if_neg (by omega), if_neg (by omega), if_neg (by omega), if_pos (by omega), if_neg (by omega)]; rfl, fun z => absurd z (by omega)⟩
    · refine g_lconst (pc' := 95) (v := 1) dX10_reckon_94 rfl (by decide) ?_
      refine g_goto (tgt := 99) dX10_reckon_95 rfl ?_
      refine g_lreturn dX10_reckon_99 ?_
      exact ⟨hi, Fr.rf, rfl, rfl, rfl, rfl, rfl, rfl, rfl, rfl, ⟨by decide, by decide⟩, by omega, fun _ => by unfold opV; rw [if_neg (by omega), if_neg (by omega), if_neg (by omega), if_neg (by omega), if_pos (by omega), if_pos (by omega)]; rfl, fun z => absurd z (by omega)⟩
  by_cases c14 : op = 25
  · refine g_tabIn (tgt := 100) (off := 99) hop dX10_reckon_1 (by omega) (by omega) (by rw [c14]; rfl) rfl ?_
    refine g_lload_n (pc' := 101) 2 dX10_reckon_100 rfl rfl ?_
    refine g_lload (pc' := 103) 3 dX10_reckon_101 rfl rfl ?_
    refine g_lc_le (pc' := 107) (tgt := 111) ha hb dX10_reckon_103 dX10_reckon_104 rfl rfl (fun c15 => ?_) (fun c15 => ?_)
    · refine g_lconst (pc' := 112) (v := 0) dX10_reckon_111 rfl (by decide) ?_
      refine g_lreturn dX10_reckon_112 ?_
      exact ⟨hi, Fr.rf, rfl, rfl, rfl, rfl, rfl, rfl, rfl, rfl, ⟨by decide, by decide⟩, by omega, fun _ => by unfold opV; rw [if_neg (by omega), if_neg (by omega), if_neg (by omega), if_neg (by omega), if_neg (by omega), if_pos (by omega), if_neg (by omega)]; rfl, fun z => absurd z (by omega)⟩
    · refine g_lconst (pc' := 108) (v := 1) dX10_reckon_107 rfl (by decide) ?_
      refine g_goto (tgt := 112) dX10_reckon_108 rfl ?_
      refine g_lreturn dX10_reckon_112 ?_
      exact ⟨hi, Fr.rf, rfl, rfl, rfl, rfl, rfl, rfl, rfl, rfl, ⟨by decide, by decide⟩, by omega, fun _ => by unfold opV; rw [if_neg (by omega), if_neg (by omega), if_neg (by omega), if_neg (by omega), if_neg (by omega), if_pos (by omega), if_pos (by omega)]; rfl, fun z => absurd z (by omega)⟩
  refine g_tabOut (tgt := 113) hop dX10_reckon_1 (by omega) rfl ?_
  refine g_lload_n (pc' := 114) 2 dX10_reckon_113 rfl rfl ?_
  refine g_lload (pc' := 116) 3 dX10_reckon_114 rfl rfl ?_
  refine g_lc_ne (pc' := 120) (tgt := 124) ha hb dX10_reckon_116 dX10_reckon_117 rfl rfl (fun c17 => ?_) (fun c17 => ?_)
  · refine g_lconst (pc' := 125) (v := 0) dX10_reckon_124 rfl (by decide) ?_
    refine g_lreturn dX10_reckon_125 ?_
    exact ⟨hi, Fr.rf, rfl, rfl, rfl, rfl, rfl, rfl, rfl, rfl, ⟨by decide, by decide⟩, by omega, fun _ => by unfold opV; rw [if_neg (by omega), if_neg (by omega), if_neg (by omega), if_neg (by omega), if_neg (by omega), if_neg (by omega), if_neg (by omega)]; rfl, fun z => absurd z (by omega)⟩
  · refine g_lconst (pc' := 121) (v := 1) dX10_reckon_120 rfl (by decide) ?_
    refine g_goto (tgt := 125) dX10_reckon_121 rfl ?_
    refine g_lreturn dX10_reckon_125 ?_
    exact ⟨hi, Fr.rf, rfl, rfl, rfl, rfl, rfl, rfl, rfl, rfl, ⟨by decide, by decide⟩, by omega, fun _ => by unfold opV; rw [if_neg (by omega), if_neg (by omega), if_neg (by omega), if_neg (by omega), if_neg (by omega), if_neg (by omega), if_pos (by omega)]; rfl, fun z => absurd z (by omega)⟩
set_option maxHeartbeats 4000000 in
set_option maxRecDepth 100000 in
theorem l_X10_reckonAll_z_10 (X : Cx) (M : Mm) (hi : IM M) (a : Int) (ha : inI a) (b : Int) (hb : inI b) (hrg : RG (M 108) (M 109) a b) (f : Mng) (mr : MR (M 108) (M 109) a.toNat b.toNat f) : ∀ (kk : Nat) (n : Int) (k : Int) (M1 : Mm) (ic1 : IM M1) (fr1 : Fr (fun c => c = 97 ∨ c = 112) M M1) (q97_12 : (M1 97 12 = M 97 12)) (q97_19 : (M1 97 19 = M 97 19)) (q97_21 : (M1 97 21 = M 97 21)) (q97_32 : (M1 97 32 = M 97 32)) (q97_17 : (M1 97 17 = M 97 17)) (q97_33 : (M1 97 33 = M 97 33)) (q97_10 : (M1 97 10 = M 97 10)) (q97_44 : (M1 97 44 = M 97 44)) (hab : 0 ≤ a ∧ a ≤ b ∧ b ≤ 400) (h : Nat → Int) (hz0 : h a.toNat = 0) (hst : ∀ k : Nat, a ≤ (k : Int) → (k : Int) < b → stOK h (M 108) (M 109) b k) (hk : a ≤ k ∧ k ≤ b) (hn : n = h k.toNat) (hn0 : 0 ≤ n ∧ n ≤ k - a) (rk : RKI (M 108) (M 109) (evE (M 99 0) (M 97 32) (M 101) (fun j => M 99 (4 + j))) b.toNat (zOf (evE (M 99 0) (M 97 32) (M 101) (fun j => M 99 (4 + j))) b.toNat f) (M1 97 30) k n (M1 112)), (b - k).toNat = kk → G X 3 RX10 cX10_reckonAll 7 none (Qv (fun M1 => IM M1 ∧ Fr (fun c => c = 97 ∨ c = 112) M M1 ∧ M1 97 12 = M 97 12 ∧ M1 97 19 = M 97 19 ∧ M1 97 21 = M 97 21 ∧ M1 97 32 = M 97 32 ∧ M1 97 17 = M 97 17 ∧ M1 97 33 = M 97 33 ∧ M1 97 10 = M 97 10 ∧ M1 97 44 = M 97 44 ∧ (inL (M1 97 31) ∧ VLQ (evE (M 99 0) (M 97 32) (M 101) (fun j => M 99 (4 + j))) f (M1 97 30) (M1 97 31)))) 10 [(3, vi n), (4, vi k), (0, vr X 97), (1, vi a), (2, vi b)] [] M1 := by
  intro kk
  induction kk using Nat.strongRecOn with
  | ind kk ih =>
    intro n k M1 ic1 fr1 q97_12 q97_19 q97_21 q97_32 q97_17 q97_33 q97_10 q97_44 hab h hz0 hst hk hn hn0 rk hmes
    refine g_iload (pc' := 12) 1 dX10_reckonAll_10 rfl rfl ?_
    refine g_iload_n (pc' := 13) 4 dX10_reckonAll_12 rfl rfl ?_
    refine g_ic_ge (pc' := 16) (tgt := 224) ⟨by omega, by omega⟩ hb dX10_reckonAll_13 rfl rfl (fun c1 => ?_) (fun c1 => ?_)
    · refine g_aload_n (pc' := 225) 2 dX10_reckonAll_224 rfl rfl ?_
      refine g_iload_n (pc' := 226) 0 dX10_reckonAll_225 rfl rfl ?_
      refine g_if_le (pc' := 229) (tgt := 238) ⟨by omega, by omega⟩ dX10_reckonAll_226 rfl rfl (fun c2 => ?_) (fun c2 => ?_)
      · refine g_lconst (pc' := 239) (v := 0) dX10_reckonAll_238 rfl (by decide) ?_
        refine g_putL (pc' := 242) dX10_reckonAll_239 rfl p_X10_316 rfl rfl (by decide) (fun M3 hM3 => ?_)
        have iM3 : IM M3 := IM.wr ic1 hM3 (by unfold okv; first | decide | omega)
        have fM3 : Fr (fun c => c = 97 ∨ c = 112) M M3 := Fr.wr fr1 hM3 (by first | decide | omega | (dsimp only; omega))
        have q97_12_M3 : (M3 97 12 = M 97 12) := (show M3 97 12 = M1 97 12 by rw [hM3]; exact mu_ne _ _ (by first | decide | omega)).trans q97_12
        have q97_19_M3 : (M3 97 19 = M 97 19) := (show M3 97 19 = M1 97 19 by rw [hM3]; exact mu_ne _ _ (by first | decide | omega)).trans q97_19
        have q97_21_M3 : (M3 97 21 = M 97 21) := (show M3 97 21 = M1 97 21 by rw [hM3]; exact mu_ne _ _ (by first | decide | omega)).trans q97_21
        have q97_32_M3 : (M3 97 32 = M 97 32) := (show M3 97 32 = M1 97 32 by rw [hM3]; exact mu_ne _ _ (by first | decide | omega)).trans q97_32
        have q97_17_M3 : (M3 97 17 = M 97 17) := (show M3 97 17 = M1 97 17 by rw [hM3]; exact mu_ne _ _ (by first | decide | omega)).trans q97_17
        have q97_33_M3 : (M3 97 33 = M 97 33) := (show M3 97 33 = M1 97 33 by rw [hM3]; exact mu_ne _ _ (by first | decide | omega)).trans q97_33
        have q97_10_M3 : (M3 97 10 = M 97 10) := (show M3 97 10 = M1 97 10 by rw [hM3]; exact mu_ne _ _ (by first | decide | omega)).trans q97_10
        have q97_44_M3 : (M3 97 44 = M 97 44) := (show M3 97 44 = M1 97 44 by rw [hM3]; exact mu_ne _ _ (by first | decide | omega)).trans q97_44
        have wM3_97_30 : M3 97 30 = M1 97 30 := by rw [hM3]; exact mu_ne _ _ (by first | decide | omega)
        have xM3_97_31 : M3 97 31 = 0 := by rw [hM3]; exact mu_at _ _ _ _
        have qM3 : M3 112 = M1 112 := (show M3 112 = M1 112 by rw [hM3]; exact mu_cell _ _ (by decide))
        refine g_vreturn dX10_reckonAll_242 ?_
        have en := rk.end_ (by omega)
        exact ⟨iM3, fM3, q97_12_M3, q97_19_M3, q97_21_M3, q97_32_M3, q97_17_M3, q97_33_M3, q97_10_M3, q97_44_M3, ⟨by omega, by omega⟩, by rw [show M3 97 30 = M1 97 30 by omega]; exact en.1, fun x hx => ⟨by rw [show M3 97 30 = M1 97 30 by omega]; exact (en.2.1 x hx).1, by
            have q := en.2.1 x hx
            omega⟩, fun hx => by rw [show M3 97 30 = M1 97 30 by omega]; exact en.2.2 hx⟩
      · refine g_aload_n (pc' := 230) 2 dX10_reckonAll_229 rfl rfl ?_
        refine g_getR (pc' := 233) dX10_reckonAll_230 rfl f_X10_58 rfl rfl ?_
        refine g_iconst (pc' := 234) dX10_reckonAll_233 rfl ?_
        refine g_lald (pc' := 235) dX10_reckonAll_234 rfl rfl (by decide) (by decide) (fun v4 ev4 rv4 => ?_)
        have ev4 : v4 = M1 112 0 := ev4
        refine g_goto (tgt := 239) dX10_reckonAll_235 rfl ?_
        refine g_putL (pc' := 242) dX10_reckonAll_239 rfl p_X10_316 rfl rfl rv4 (fun M5 hM5 => ?_)
        have iM5 : IM M5 := IM.wr ic1 hM5 (by unfold okv; first | decide | omega)
        have fM5 : Fr (fun c => c = 97 ∨ c = 112) M M5 := Fr.wr fr1 hM5 (by first | decide | omega | (dsimp only; omega))
        have q97_12_M5 : (M5 97 12 = M 97 12) := (show M5 97 12 = M1 97 12 by rw [hM5]; exact mu_ne _ _ (by first | decide | omega)).trans q97_12
        have q97_19_M5 : (M5 97 19 = M 97 19) := (show M5 97 19 = M1 97 19 by rw [hM5]; exact mu_ne _ _ (by first | decide | omega)).trans q97_19
        have q97_21_M5 : (M5 97 21 = M 97 21) := (show M5 97 21 = M1 97 21 by rw [hM5]; exact mu_ne _ _ (by first | decide | omega)).trans q97_21
        have q97_32_M5 : (M5 97 32 = M 97 32) := (show M5 97 32 = M1 97 32 by rw [hM5]; exact mu_ne _ _ (by first | decide | omega)).trans q97_32
        have q97_17_M5 : (M5 97 17 = M 97 17) := (show M5 97 17 = M1 97 17 by rw [hM5]; exact mu_ne _ _ (by first | decide | omega)).trans q97_17
        have q97_33_M5 : (M5 97 33 = M 97 33) := (show M5 97 33 = M1 97 33 by rw [hM5]; exact mu_ne _ _ (by first | decide | omega)).trans q97_33
        have q97_10_M5 : (M5 97 10 = M 97 10) := (show M5 97 10 = M1 97 10 by rw [hM5]; exact mu_ne _ _ (by first | decide | omega)).trans q97_10
        have q97_44_M5 : (M5 97 44 = M 97 44) := (show M5 97 44 = M1 97 44 by rw [hM5]; exact mu_ne _ _ (by first | decide | omega)).trans q97_44
        have wM5_97_30 : M5 97 30 = M1 97 30 := by rw [hM5]; exact mu_ne _ _ (by first | decide | omega)
        have xM5_97_31 : M5 97 31 = v4 := by rw [hM5]; exact mu_at _ _ _ _
        have qM5 : M5 112 = M1 112 := (show M5 112 = M1 112 by rw [hM5]; exact mu_cell _ _ (by decide))
        refine g_vreturn dX10_reckonAll_242 ?_
        have en := rk.end_ (by omega)
        exact ⟨iM5, fM5, q97_12_M5, q97_19_M5, q97_21_M5, q97_32_M5, q97_17_M5, q97_33_M5, q97_10_M5, q97_44_M5, ⟨by omega, by omega⟩, by rw [show M5 97 30 = M1 97 30 by omega]; exact en.1, fun x hx => ⟨by rw [show M5 97 30 = M1 97 30 by omega]; exact (en.2.1 x hx).1, by
            have q := en.2.1 x hx
            omega⟩, fun hx => by rw [show M5 97 30 = M1 97 30 by omega]; exact en.2.2 hx⟩
    · refine g_aload_n (pc' := 17) 2 dX10_reckonAll_16 rfl rfl ?_
      refine g_getI (pc' := 20) dX10_reckonAll_17 rfl f_X10_301 rfl rfl (fun v6 ev6 rv6 => ?_)
      refine g_if_ne (pc' := 23) (tgt := 224) rv6 dX10_reckonAll_20 rfl rfl (fun c7 => ?_) (fun c7 => ?_)
      · refine g_aload_n (pc' := 225) 2 dX10_reckonAll_224 rfl rfl ?_
        refine g_iload_n (pc' := 226) 0 dX10_reckonAll_225 rfl rfl ?_
        refine g_if_le (pc' := 229) (tgt := 238) ⟨by omega, by omega⟩ dX10_reckonAll_226 rfl rfl (fun c8 => ?_) (fun c8 => ?_)
        · refine g_lconst (pc' := 239) (v := 0) dX10_reckonAll_238 rfl (by decide) ?_
          refine g_putL (pc' := 242) dX10_reckonAll_239 rfl p_X10_316 rfl rfl (by decide) (fun M9 hM9 => ?_)
          have iM9 : IM M9 := IM.wr ic1 hM9 (by unfold okv; first | decide | omega)
          have fM9 : Fr (fun c => c = 97 ∨ c = 112) M M9 := Fr.wr fr1 hM9 (by first | decide | omega | (dsimp only; omega))
          have q97_12_M9 : (M9 97 12 = M 97 12) := (show M9 97 12 = M1 97 12 by rw [hM9]; exact mu_ne _ _ (by first | decide | omega)).trans q97_12
          have q97_19_M9 : (M9 97 19 = M 97 19) := (show M9 97 19 = M1 97 19 by rw [hM9]; exact mu_ne _ _ (by first | decide | omega)).trans q97_19
          have q97_21_M9 : (M9 97 21 = M 97 21) := (show M9 97 21 = M1 97 21 by rw [hM9]; exact mu_ne _ _ (by first | decide | omega)).trans q97_21
          have q97_32_M9 : (M9 97 32 = M 97 32) := (show M9 97 32 = M1 97 32 by rw [hM9]; exact mu_ne _ _ (by first | decide | omega)).trans q97_32
          have q97_17_M9 : (M9 97 17 = M 97 17) := (show M9 97 17 = M1 97 17 by rw [hM9]; exact mu_ne _ _ (by first | decide | omega)).trans q97_17
          have q97_33_M9 : (M9 97 33 = M 97 33) := (show M9 97 33 = M1 97 33 by rw [hM9]; exact mu_ne _ _ (by first | decide | omega)).trans q97_33
          have q97_10_M9 : (M9 97 10 = M 97 10) := (show M9 97 10 = M1 97 10 by rw [hM9]; exact mu_ne _ _ (by first | decide | omega)).trans q97_10
          have q97_44_M9 : (M9 97 44 = M 97 44) := (show M9 97 44 = M1 97 44 by rw [hM9]; exact mu_ne _ _ (by first | decide | omega)).trans q97_44
          have wM9_97_30 : M9 97 30 = M1 97 30 := by rw [hM9]; exact mu_ne _ _ (by first | decide | omega)
          have xM9_97_31 : M9 97 31 = 0 := by rw [hM9]; exact mu_at _ _ _ _
          have qM9 : M9 112 = M1 112 := (show M9 112 = M1 112 by rw [hM9]; exact mu_cell _ _ (by decide))
          refine g_vreturn dX10_reckonAll_242 ?_
          have en := rk.end_ (by omega)
          exact ⟨iM9, fM9, q97_12_M9, q97_19_M9, q97_21_M9, q97_32_M9, q97_17_M9, q97_33_M9, q97_10_M9, q97_44_M9, ⟨by omega, by omega⟩, by rw [show M9 97 30 = M1 97 30 by omega]; exact en.1, fun x hx => ⟨by rw [show M9 97 30 = M1 97 30 by omega]; exact (en.2.1 x hx).1, by
              have q := en.2.1 x hx
              omega⟩, fun hx => by rw [show M9 97 30 = M1 97 30 by omega]; exact en.2.2 hx⟩
        · refine g_aload_n (pc' := 230) 2 dX10_reckonAll_229 rfl rfl ?_
          refine g_getR (pc' := 233) dX10_reckonAll_230 rfl f_X10_58 rfl rfl ?_
          refine g_iconst (pc' := 234) dX10_reckonAll_233 rfl ?_
          refine g_lald (pc' := 235) dX10_reckonAll_234 rfl rfl (by decide) (by decide) (fun v10 ev10 rv10 => ?_)
          have ev10 : v10 = M1 112 0 := ev10
          refine g_goto (tgt := 239) dX10_reckonAll_235 rfl ?_
          refine g_putL (pc' := 242) dX10_reckonAll_239 rfl p_X10_316 rfl rfl rv10 (fun M11 hM11 => ?_)
          have iM11 : IM M11 := IM.wr ic1 hM11 (by unfold okv; first | decide | omega)
          have fM11 : Fr (fun c => c = 97 ∨ c = 112) M M11 := Fr.wr fr1 hM11 (by first | decide | omega | (dsimp only; omega))
          have q97_12_M11 : (M11 97 12 = M 97 12) := (show M11 97 12 = M1 97 12 by rw [hM11]; exact mu_ne _ _ (by first | decide | omega)).trans q97_12
          have q97_19_M11 : (M11 97 19 = M 97 19) := (show M11 97 19 = M1 97 19 by rw [hM11]; exact mu_ne _ _ (by first | decide | omega)).trans q97_19
          have q97_21_M11 : (M11 97 21 = M 97 21) := (show M11 97 21 = M1 97 21 by rw [hM11]; exact mu_ne _ _ (by first | decide | omega)).trans q97_21
          have q97_32_M11 : (M11 97 32 = M 97 32) := (show M11 97 32 = M1 97 32 by rw [hM11]; exact mu_ne _ _ (by first | decide | omega)).trans q97_32
          have q97_17_M11 : (M11 97 17 = M 97 17) := (show M11 97 17 = M1 97 17 by rw [hM11]; exact mu_ne _ _ (by first | decide | omega)).trans q97_17
          have q97_33_M11 : (M11 97 33 = M 97 33) := (show M11 97 33 = M1 97 33 by rw [hM11]; exact mu_ne _ _ (by first | decide | omega)).trans q97_33
          have q97_10_M11 : (M11 97 10 = M 97 10) := (show M11 97 10 = M1 97 10 by rw [hM11]; exact mu_ne _ _ (by first | decide | omega)).trans q97_10
          have q97_44_M11 : (M11 97 44 = M 97 44) := (show M11 97 44 = M1 97 44 by rw [hM11]; exact mu_ne _ _ (by first | decide | omega)).trans q97_44
          have wM11_97_30 : M11 97 30 = M1 97 30 := by rw [hM11]; exact mu_ne _ _ (by first | decide | omega)
          have xM11_97_31 : M11 97 31 = v10 := by rw [hM11]; exact mu_at _ _ _ _
          have qM11 : M11 112 = M1 112 := (show M11 112 = M1 112 by rw [hM11]; exact mu_cell _ _ (by decide))
          refine g_vreturn dX10_reckonAll_242 ?_
          have en := rk.end_ (by omega)
          exact ⟨iM11, fM11, q97_12_M11, q97_19_M11, q97_21_M11, q97_32_M11, q97_17_M11, q97_33_M11, q97_10_M11, q97_44_M11, ⟨by omega, by omega⟩, by rw [show M11 97 30 = M1 97 30 by omega]; exact en.1, fun x hx => ⟨by rw [show M11 97 30 = M1 97 30 by omega]; exact (en.2.1 x hx).1, by
              have q := en.2.1 x hx
              omega⟩, fun hx => by rw [show M11 97 30 = M1 97 30 by omega]; exact en.2.2 hx⟩
      · refine g_aload_n (pc' := 24) 2 dX10_reckonAll_23 rfl rfl ?_
        refine g_getR (pc' := 27) dX10_reckonAll_24 rfl f_X10_46 rfl rfl ?_
        refine g_iload (pc' := 29) 1 dX10_reckonAll_27 rfl rfl ?_
        refine g_iald (pc' := 30) dX10_reckonAll_29 rfl rfl (by omega) (by omega) (fun v12 ev12 rv12 => ?_)
        have gv12 : v12 = M 108 k.toNat := by rw [ev12, fr1 108 (by decide)]
        refine g_istore (pc' := 32) (L' := [(5, vi v12), (3, vi n), (4, vi k), (0, vr X 97), (1, vi a), (2, vi b)]) dX10_reckonAll_30 rfl (by decide) rfl ?_
        refine g_aload_n (pc' := 33) 3 dX10_reckonAll_32 rfl rfl ?_
        refine g_getR (pc' := 36) dX10_reckonAll_33 rfl f_X10_49 rfl rfl ?_
        refine g_iload (pc' := 38) 2 dX10_reckonAll_36 rfl rfl ?_
        refine g_iald (pc' := 39) dX10_reckonAll_38 rfl rfl (by omega) (by omega) (fun v13 ev13 rv13 => ?_)
        have gv13 : v13 = M 109 k.toNat := by rw [ev13, fr1 109 (by decide)]
        have z0 := stOK.ar (n := n) hz0 (by omega) hst (k := k) (by omega) gv12 gv13 hn
        refine g_istore (pc' := 41) (L' := [(6, vi v13), (5, vi v12), (3, vi n), (4, vi k), (0, vr X 97), (1, vi a), (2, vi b)]) dX10_reckonAll_39 rfl (by decide) rfl ?_
        refine g_iinc (pc' := 44) (L' := [(4, vi (k + 1)), (6, vi v13), (5, vi v12), (3, vi n), (0, vr X 97), (1, vi a), (2, vi b)]) 3 dX10_reckonAll_41 rfl rfl (by decide) rfl ?_
        refine g_iload (pc' := 46) 2 dX10_reckonAll_44 rfl rfl ?_
        refine g_bipush (pc' := 48) (v := 20) dX10_reckonAll_46 rfl (by decide) ?_
        refine g_ic_ge (pc' := 51) (tgt := 82) rv12 (by decide) dX10_reckonAll_48 rfl rfl (fun c14 => ?_) (fun c14 => ?_)
        · refine g_iload (pc' := 84) 2 dX10_reckonAll_82 rfl rfl ?_
          refine g_bipush (pc' := 86) (v := 27) dX10_reckonAll_84 rfl (by decide) ?_
          refine g_ic_ge (pc' := 89) (tgt := 159) rv12 (by decide) dX10_reckonAll_86 rfl rfl (fun c15 => ?_) (fun c15 => ?_)
          · refine g_iload (pc' := 161) 2 dX10_reckonAll_159 rfl rfl ?_
            refine g_bipush (pc' := 163) (v := 27) dX10_reckonAll_161 rfl (by decide) ?_
            refine g_ic_ne (pc' := 166) (tgt := 187) rv12 (by decide) dX10_reckonAll_163 rfl rfl (fun c16 => ?_) (fun c16 => ?_)
            · obtain ⟨u, st, g, pil, bv⟩ := rk.2.1 (by omega)
              obtain ⟨ro, es, pr⟩ := pil.one_ (show 1 ≤ n by omega)
              have b1 := bv (M1 112 (n - 1).toNat) (by rw [es]; simp)
              refine g_aload_n (pc' := 188) 4 dX10_reckonAll_187 rfl rfl ?_
              refine g_getR (pc' := 191) dX10_reckonAll_188 rfl f_X10_58 rfl rfl ?_
              refine g_iload_n (pc' := 192) 3 dX10_reckonAll_191 rfl rfl ?_
              refine g_iconst (pc' := 193) dX10_reckonAll_192 rfl ?_
              refine g_isub (pc' := 194) dX10_reckonAll_193 rfl ?_
              refine g_lald (pc' := 195) dX10_reckonAll_194 rfl rfl (by omega) (by omega) (fun v17 ev17 rv17 => ?_)
              have yv17 : v17 = M1 112 (n - 1).toNat := by rw [ev17, show (n - 1).toNat = (n - 1).toNat by omega]
              refine g_iload (pc' := 197) 2 dX10_reckonAll_195 rfl rfl ?_
              refine g_bipush (pc' := 199) (v := 28) dX10_reckonAll_197 rfl (by decide) ?_
              refine g_ic_ne (pc' := 202) (tgt := 206) rv12 (by decide) dX10_reckonAll_199 rfl rfl (fun c18 => ?_) (fun c18 => ?_)
              · refine g_lconst (pc' := 207) (v := 1) dX10_reckonAll_206 rfl (by decide) ?_
                refine g_lc_ne (pc' := 211) (tgt := 218) rv17 (by decide) dX10_reckonAll_207 dX10_reckonAll_208 rfl rfl (fun c19 => ?_) (fun c19 => ?_)
                · refine g_iinc (pc' := 221) (L' := [(3, vi (n + (-1))), (4, vi (k + 1)), (6, vi v13), (5, vi v12), (0, vr X 97), (1, vi a), (2, vi b)]) 3 dX10_reckonAll_218 rfl rfl (by decide) rfl ?_
                  refine g_goto (tgt := 10) dX10_reckonAll_221 rfl ?_
                  refine g_sub [0, 1, 4, 5, 6] rfl ?_
                  exact ih _ (by omega) (n + (-1)) (k + 1) M1 ic1 fr1 q97_12 q97_19 q97_21 q97_32 q97_17 q97_33 q97_10 q97_44 hab h hz0 hst (by omega) (by omega) (by omega) (RKI.jn g es pr bv ⟨by omega, by omega⟩ gv12 gv13 (by omega) yv17 (by omega) (by omega) (by omega) (by omega)) rfl
                · refine g_iload (pc' := 213) 1 dX10_reckonAll_211 rfl rfl ?_
                  refine g_istore (pc' := 215) (L' := [(4, vi v13), (6, vi v13), (5, vi v12), (3, vi n), (0, vr X 97), (1, vi a), (2, vi b)]) dX10_reckonAll_213 rfl (by decide) rfl ?_
                  refine g_goto (tgt := 221) dX10_reckonAll_215 rfl ?_
                  refine g_goto (tgt := 10) dX10_reckonAll_221 rfl ?_
                  refine g_sub [3, 0, 4, 5, 6] rfl ?_
                  exact ih _ (by omega) n v13 M1 ic1 fr1 q97_12 q97_19 q97_21 q97_32 q97_17 q97_33 q97_10 q97_44 hab h hz0 hst (by omega) (by omega) (by omega) (RKI.jy g es pil bv ⟨by omega, by omega⟩ gv12 gv13 (by omega) yv17 (by omega) (by omega) (by omega)) rfl
              · refine g_lconst (pc' := 203) (v := 0) dX10_reckonAll_202 rfl (by decide) ?_
                refine g_goto (tgt := 207) dX10_reckonAll_203 rfl ?_
                refine g_lc_ne (pc' := 211) (tgt := 218) rv17 (by decide) dX10_reckonAll_207 dX10_reckonAll_208 rfl rfl (fun c20 => ?_) (fun c20 => ?_)
                · refine g_iinc (pc' := 221) (L' := [(3, vi (n + (-1))), (4, vi (k + 1)), (6, vi v13), (5, vi v12), (0, vr X 97), (1, vi a), (2, vi b)]) 3 dX10_reckonAll_218 rfl rfl (by decide) rfl ?_
                  refine g_goto (tgt := 10) dX10_reckonAll_221 rfl ?_
                  refine g_sub [0, 1, 4, 5, 6] rfl ?_
                  exact ih _ (by omega) (n + (-1)) (k + 1) M1 ic1 fr1 q97_12 q97_19 q97_21 q97_32 q97_17 q97_33 q97_10 q97_44 hab h hz0 hst (by omega) (by omega) (by omega) (RKI.jn g es pr bv ⟨by omega, by omega⟩ gv12 gv13 (by omega) yv17 (by omega) (by omega) (by omega) (by omega)) rfl
                · refine g_iload (pc' := 213) 1 dX10_reckonAll_211 rfl rfl ?_
                  refine g_istore (pc' := 215) (L' := [(4, vi v13), (6, vi v13), (5, vi v12), (3, vi n), (0, vr X 97), (1, vi a), (2, vi b)]) dX10_reckonAll_213 rfl (by decide) rfl ?_
                  refine g_goto (tgt := 221) dX10_reckonAll_215 rfl ?_
                  refine g_goto (tgt := 10) dX10_reckonAll_221 rfl ?_
                  refine g_sub [3, 0, 4, 5, 6] rfl ?_
                  exact ih _ (by omega) n v13 M1 ic1 fr1 q97_12 q97_19 q97_21 q97_32 q97_17 q97_33 q97_10 q97_44 hab h hz0 hst (by omega) (by omega) (by omega) (RKI.jy g es pil bv ⟨by omega, by omega⟩ gv12 gv13 (by omega) yv17 (by omega) (by omega) (by omega)) rfl
            · obtain ⟨u, st, g, pil, bv⟩ := rk.2.1 (by omega)
              obtain ⟨ro, es, pr⟩ := pil.one_ (show 1 ≤ n by omega)
              have b1 := bv (M1 112 (n - 1).toNat) (by rw [es]; simp)
              refine g_aload_n (pc' := 167) 4 dX10_reckonAll_166 rfl rfl ?_
              refine g_getR (pc' := 170) dX10_reckonAll_167 rfl f_X10_58 rfl rfl ?_
              refine g_iload_n (pc' := 171) 3 dX10_reckonAll_170 rfl rfl ?_
              refine g_iconst (pc' := 172) dX10_reckonAll_171 rfl ?_
              refine g_isub (pc' := 173) dX10_reckonAll_172 rfl ?_
              refine g_lconst (pc' := 174) (v := 1) dX10_reckonAll_173 rfl (by decide) ?_
              refine g_aload_n (pc' := 175) 4 dX10_reckonAll_174 rfl rfl ?_
              refine g_getR (pc' := 178) dX10_reckonAll_175 rfl f_X10_58 rfl rfl ?_
              refine g_iload_n (pc' := 179) 3 dX10_reckonAll_178 rfl rfl ?_
              refine g_iconst (pc' := 180) dX10_reckonAll_179 rfl ?_
              refine g_isub (pc' := 181) dX10_reckonAll_180 rfl ?_
              refine g_lald (pc' := 182) dX10_reckonAll_181 rfl rfl (by omega) (by omega) (fun v21 ev21 rv21 => ?_)
              have yv21 : v21 = M1 112 (n - 1).toNat := by rw [ev21, show (n - 1).toNat = (n - 1).toNat by omega]
              refine g_lsub (pc' := 183) dX10_reckonAll_182 rfl ?_
              refine g_last (pc' := 184) dX10_reckonAll_183 rfl rfl (by omega) (by omega) ⟨by omega, by omega⟩ (fun M22 hM22 => ?_)
              have iM22 : IM M22 := IM.wr ic1 hM22 (by unfold okv; first | decide | omega)
              have fM22 : Fr (fun c => c = 97 ∨ c = 112) M M22 := Fr.wr fr1 hM22 (by first | decide | omega | (dsimp only; omega))
              have q97_12_M22 : (M22 97 12 = M 97 12) := (show M22 97 12 = M1 97 12 by rw [hM22]; exact mu_ne _ _ (by first | decide | omega)).trans q97_12
              have q97_19_M22 : (M22 97 19 = M 97 19) := (show M22 97 19 = M1 97 19 by rw [hM22]; exact mu_ne _ _ (by first | decide | omega)).trans q97_19
              have q97_21_M22 : (M22 97 21 = M 97 21) := (show M22 97 21 = M1 97 21 by rw [hM22]; exact mu_ne _ _ (by first | decide | omega)).trans q97_21
              have q97_32_M22 : (M22 97 32 = M 97 32) := (show M22 97 32 = M1 97 32 by rw [hM22]; exact mu_ne _ _ (by first | decide | omega)).trans q97_32
              have q97_17_M22 : (M22 97 17 = M 97 17) := (show M22 97 17 = M1 97 17 by rw [hM22]; exact mu_ne _ _ (by first | decide | omega)).trans q97_17
              have q97_33_M22 : (M22 97 33 = M 97 33) := (show M22 97 33 = M1 97 33 by rw [hM22]; exact mu_ne _ _ (by first | decide | omega)).trans q97_33
              have q97_10_M22 : (M22 97 10 = M 97 10) := (show M22 97 10 = M1 97 10 by rw [hM22]; exact mu_ne _ _ (by first | decide | omega)).trans q97_10
              have q97_44_M22 : (M22 97 44 = M 97 44) := (show M22 97 44 = M1 97 44 by rw [hM22]; exact mu_ne _ _ (by first | decide | omega)).trans q97_44
              have wM22_97_30 : M22 97 30 = M1 97 30 := by rw [hM22]; exact mu_ne _ _ (by first | decide | omega)
              have wM22_97_31 : M22 97 31 = M1 97 31 := by rw [hM22]; exact mu_ne _ _ (by first | decide | omega)
              have qM22 : M22 112 = ms (M1 112) ((n - 1).toNat) (1 - v21) := by rw [hM22, mu_is]
              refine g_goto (tgt := 221) dX10_reckonAll_184 rfl ?_
              refine g_goto (tgt := 10) dX10_reckonAll_221 rfl ?_
              refine g_sub [3, 0, 4, 5, 6] rfl ?_
              exact ih _ (by omega) n (k + 1) M22 iM22 fM22 q97_12_M22 q97_19_M22 q97_21_M22 q97_32_M22 q97_17_M22 q97_33_M22 q97_10_M22 q97_44_M22 hab h hz0 hst (by omega) (by omega) (by omega) (RKI.no g es pr bv ⟨by omega, by omega⟩ gv12 (by omega) (by omega) qM22 (by omega) (by omega) (by omega)) rfl
          · obtain ⟨u, st, g, pil, bv⟩ := rk.2.1 (by omega)
            obtain ⟨ro, es, pr⟩ := pil.two (show 2 ≤ n by omega)
            have b1 := bv (M1 112 (n - 1).toNat) (by rw [es]; simp)
            have b2 := bv (M1 112 (n - 2).toNat) (by rw [es]; simp)
            refine g_iinc (pc' := 92) (L' := [(3, vi (n + (-1))), (4, vi (k + 1)), (6, vi v13), (5, vi v12), (0, vr X 97), (1, vi a), (2, vi b)]) 3 dX10_reckonAll_89 rfl rfl (by decide) rfl ?_
            refine g_aload_n (pc' := 93) 4 dX10_reckonAll_92 rfl rfl ?_
            refine g_getR (pc' := 96) dX10_reckonAll_93 rfl f_X10_58 rfl rfl ?_
            refine g_iload_n (pc' := 97) 0 dX10_reckonAll_96 rfl rfl ?_
            refine g_iconst (pc' := 98) dX10_reckonAll_97 rfl ?_
            refine g_isub (pc' := 99) dX10_reckonAll_98 rfl ?_
            refine g_aload_n (pc' := 100) 4 dX10_reckonAll_99 rfl rfl ?_
            refine g_iload (pc' := 102) 3 dX10_reckonAll_100 rfl rfl ?_
            refine g_aload_n (pc' := 103) 4 dX10_reckonAll_102 rfl rfl ?_
            refine g_getR (pc' := 106) dX10_reckonAll_103 rfl f_X10_58 rfl rfl ?_
            refine g_iload_n (pc' := 107) 0 dX10_reckonAll_106 rfl rfl ?_
            refine g_iconst (pc' := 108) dX10_reckonAll_107 rfl ?_
            refine g_isub (pc' := 109) dX10_reckonAll_108 rfl ?_
            refine g_lald (pc' := 110) dX10_reckonAll_109 rfl rfl (by omega) (by omega) (fun v23 ev23 rv23 => ?_)
            have yv23 : v23 = M1 112 (n - 2).toNat := by rw [ev23, show ((n + (-1)) - 1).toNat = (n - 2).toNat by omega]
            refine g_aload_n (pc' := 111) 4 dX10_reckonAll_110 rfl rfl ?_
            refine g_getR (pc' := 114) dX10_reckonAll_111 rfl f_X10_58 rfl rfl ?_
            refine g_iload_n (pc' := 115) 0 dX10_reckonAll_114 rfl rfl ?_
            refine g_lald (pc' := 116) dX10_reckonAll_115 rfl rfl (by omega) (by omega) (fun v24 ev24 rv24 => ?_)
            have yv24 : v24 = M1 112 (n - 1).toNat := by rw [ev24, show (n + (-1)).toNat = (n - 1).toNat by omega]
            refine g_callVl (pc' := 119) (As := [vi v12, vl v23, vl v24]) (b := 97) (S := [vi ((n + (-1)) - 1), vr X 112]) dX10_reckonAll_116 rfl m_X10_308 w_X10_reckon (c_X10_reckon_z X M1 ic1 v12 rv12 v23 rv23 v24 rv24 (by omega) (by omega) (by omega) (by omega)) rfl ⟨_, _, _, rfl, rfl, rfl⟩ (by decide) (by decide) rfl (Nat.le_of_ble_eq_true rfl) (fun z26 M27 q25 => ?_)
            obtain ⟨iM27, fM270, eM27_97_12, eM27_97_19, eM27_97_21, eM27_97_32, eM27_97_17, eM27_97_33, eM27_97_10, eM27_97_44, pM27⟩ := q25
            have fM27 : Fr (fun c => c = 97 ∨ c = 112) M M27 := Fr.tr fr1 fM270 fi_48
            have q97_12_M27 : (M27 97 12 = M 97 12) := eM27_97_12.trans q97_12
            have q97_19_M27 : (M27 97 19 = M 97 19) := eM27_97_19.trans q97_19
            have q97_21_M27 : (M27 97 21 = M 97 21) := eM27_97_21.trans q97_21
            have q97_32_M27 : (M27 97 32 = M 97 32) := eM27_97_32.trans q97_32
            have q97_17_M27 : (M27 97 17 = M 97 17) := eM27_97_17.trans q97_17
            have q97_33_M27 : (M27 97 33 = M 97 33) := eM27_97_33.trans q97_33
            have q97_10_M27 : (M27 97 10 = M 97 10) := eM27_97_10.trans q97_10
            have q97_44_M27 : (M27 97 44 = M 97 44) := eM27_97_44.trans q97_44
            have qM27 : M27 112 = M1 112 := fM270 112 (by decide)
            obtain ⟨raM27, rbM27, rcM27, rdM27⟩ := pM27
            refine g_last (pc' := 120) dX10_reckonAll_119 rfl rfl (by omega) (by omega) ⟨by omega, by omega⟩ (fun M28 hM28 => ?_)
            have iM28 : IM M28 := IM.wr iM27 hM28 (by unfold okv; first | decide | omega)
            have fM28 : Fr (fun c => c = 97 ∨ c = 112) M M28 := Fr.wr fM27 hM28 (by first | decide | omega | (dsimp only; omega))
            have q97_12_M28 : (M28 97 12 = M 97 12) := (show M28 97 12 = M27 97 12 by rw [hM28]; exact mu_ne _ _ (by first | decide | omega)).trans q97_12_M27
            have q97_19_M28 : (M28 97 19 = M 97 19) := (show M28 97 19 = M27 97 19 by rw [hM28]; exact mu_ne _ _ (by first | decide | omega)).trans q97_19_M27
            have q97_21_M28 : (M28 97 21 = M 97 21) := (show M28 97 21 = M27 97 21 by rw [hM28]; exact mu_ne _ _ (by first | decide | omega)).trans q97_21_M27
            have q97_32_M28 : (M28 97 32 = M 97 32) := (show M28 97 32 = M27 97 32 by rw [hM28]; exact mu_ne _ _ (by first | decide | omega)).trans q97_32_M27
            have q97_17_M28 : (M28 97 17 = M 97 17) := (show M28 97 17 = M27 97 17 by rw [hM28]; exact mu_ne _ _ (by first | decide | omega)).trans q97_17_M27
            have q97_33_M28 : (M28 97 33 = M 97 33) := (show M28 97 33 = M27 97 33 by rw [hM28]; exact mu_ne _ _ (by first | decide | omega)).trans q97_33_M27
            have q97_10_M28 : (M28 97 10 = M 97 10) := (show M28 97 10 = M27 97 10 by rw [hM28]; exact mu_ne _ _ (by first | decide | omega)).trans q97_10_M27
            have q97_44_M28 : (M28 97 44 = M 97 44) := (show M28 97 44 = M27 97 44 by rw [hM28]; exact mu_ne _ _ (by first | decide | omega)).trans q97_44_M27
            have wM28_97_30 : M28 97 30 = M27 97 30 := by rw [hM28]; exact mu_ne _ _ (by first | decide | omega)
            have wM28_97_31 : M28 97 31 = M27 97 31 := by rw [hM28]; exact mu_ne _ _ (by first | decide | omega)
            have qM28 : M28 112 = ms (M1 112) (((n + (-1)) - 1).toNat) z26 := by rw [hM28, mu_is, qM27]
            refine g_aload_n (pc' := 121) 4 dX10_reckonAll_120 rfl rfl ?_
            refine g_aload_n (pc' := 122) 4 dX10_reckonAll_121 rfl rfl ?_
            refine g_getI (pc' := 125) dX10_reckonAll_122 rfl f_X10_301 rfl rfl (fun v29 ev29 rv29 => ?_)
            refine g_if_ne (pc' := 128) (tgt := 148) rv29 dX10_reckonAll_125 rfl rfl (fun c30 => ?_) (fun c30 => ?_)
            · refine g_iconst (pc' := 149) dX10_reckonAll_148 rfl ?_
              refine g_goto (tgt := 153) dX10_reckonAll_149 rfl ?_
              refine g_putZ (pc' := 156) dX10_reckonAll_153 rfl p_X10_301 rfl rfl (by omega) (fun M31 hM31 => ?_)
              have iM31 : IM M31 := IM.wr iM28 hM31 (by unfold okv; first | decide | omega)
              have fM31 : Fr (fun c => c = 97 ∨ c = 112) M M31 := Fr.wr fM28 hM31 (by first | decide | omega | (dsimp only; omega))
              have q97_12_M31 : (M31 97 12 = M 97 12) := (show M31 97 12 = M28 97 12 by rw [hM31]; exact mu_ne _ _ (by first | decide | omega)).trans q97_12_M28
              have q97_19_M31 : (M31 97 19 = M 97 19) := (show M31 97 19 = M28 97 19 by rw [hM31]; exact mu_ne _ _ (by first | decide | omega)).trans q97_19_M28
              have q97_21_M31 : (M31 97 21 = M 97 21) := (show M31 97 21 = M28 97 21 by rw [hM31]; exact mu_ne _ _ (by first | decide | omega)).trans q97_21_M28
              have q97_32_M31 : (M31 97 32 = M 97 32) := (show M31 97 32 = M28 97 32 by rw [hM31]; exact mu_ne _ _ (by first | decide | omega)).trans q97_32_M28
              have q97_17_M31 : (M31 97 17 = M 97 17) := (show M31 97 17 = M28 97 17 by rw [hM31]; exact mu_ne _ _ (by first | decide | omega)).trans q97_17_M28
              have q97_33_M31 : (M31 97 33 = M 97 33) := (show M31 97 33 = M28 97 33 by rw [hM31]; exact mu_ne _ _ (by first | decide | omega)).trans q97_33_M28
              have q97_10_M31 : (M31 97 10 = M 97 10) := (show M31 97 10 = M28 97 10 by rw [hM31]; exact mu_ne _ _ (by first | decide | omega)).trans q97_10_M28
              have q97_44_M31 : (M31 97 44 = M 97 44) := (show M31 97 44 = M28 97 44 by rw [hM31]; exact mu_ne _ _ (by first | decide | omega)).trans q97_44_M28
              have wM31_97_31 : M31 97 31 = M28 97 31 := by rw [hM31]; exact mu_ne _ _ (by first | decide | omega)
              have xM31_97_30 : M31 97 30 = 1 := by rw [hM31]; exact mu_at _ _ _ _
              have qM31 : M31 112 = ms (M1 112) (((n + (-1)) - 1).toNat) z26 := (show M31 112 = M28 112 by rw [hM31]; exact mu_cell _ _ (by decide)).trans qM28
              refine g_goto (tgt := 221) dX10_reckonAll_156 rfl ?_
              refine g_goto (tgt := 10) dX10_reckonAll_221 rfl ?_
              refine g_sub [0, 1, 4, 5, 6] rfl ?_
              exact ih _ (by omega) (n + (-1)) (k + 1) M31 iM31 fM31 q97_12_M31 q97_19_M31 q97_21_M31 q97_32_M31 q97_17_M31 q97_33_M31 q97_10_M31 q97_44_M31 hab h hz0 hst (by omega) (by omega) (by omega) (RKI.bi g es pr bv ⟨by omega, by omega⟩ gv12 (by omega) yv23 yv24 (Or.inr ⟨by omega, rdM27 (by omega)⟩) (by rw [qM31, show ((n + (-1)) - 1).toNat = (n - 2).toNat by omega]) (by omega) (by omega)) rfl
            · refine g_aload_n (pc' := 129) 4 dX10_reckonAll_128 rfl rfl ?_
              refine g_getR (pc' := 132) dX10_reckonAll_129 rfl f_X10_58 rfl rfl ?_
              refine g_iload_n (pc' := 133) 0 dX10_reckonAll_132 rfl rfl ?_
              refine g_iconst (pc' := 134) dX10_reckonAll_133 rfl ?_
              refine g_isub (pc' := 135) dX10_reckonAll_134 rfl ?_
              refine g_lald (pc' := 136) dX10_reckonAll_135 rfl rfl (by omega) (by omega) (fun v32 ev32 rv32 => ?_)
              have yv32 : v32 = z26 := by rw [ev32, show M28 112 = ms (M27 112) (((n + (-1)) - 1).toNat) z26 by rw [hM28, mu_is], show ((n + (-1)) - 1).toNat = (((n + (-1)) - 1).toNat) by omega]; exact ms_at _ _ _
              refine g_ldc2 (pc' := 139) (v := (-1000000000)) dX10_reckonAll_136 rfl k_X10_312 ?_
              refine g_ldc2 (pc' := 142) (v := 1000000000) dX10_reckonAll_139 rfl k_X10_314 ?_
              refine g_callSip (pc' := 145) (As := [vl v32, vl (-1000000000), vl 1000000000]) (S := [vr X 97]) dX10_reckonAll_142 rfl m_X10_83 w_X10_in (c_X10_in X M28 v32 rv32 (-1000000000) (by decide) 1000000000 (by decide)) rfl (by decide) (by decide) rfl (Nat.le_of_ble_eq_true rfl) (fun z34 q33 => ?_)
              refine g_if_ne (pc' := 148) (tgt := 152) ⟨by omega, by omega⟩ dX10_reckonAll_145 rfl rfl (fun c35 => ?_) (fun c35 => ?_)
              · replace q33 := q33.resolve_right (fun h => c35 h.1)
                refine g_iconst (pc' := 153) dX10_reckonAll_152 rfl ?_
                refine g_putZ (pc' := 156) dX10_reckonAll_153 rfl p_X10_301 rfl rfl (by omega) (fun M36 hM36 => ?_)
                have iM36 : IM M36 := IM.wr iM28 hM36 (by unfold okv; first | decide | omega)
                have fM36 : Fr (fun c => c = 97 ∨ c = 112) M M36 := Fr.wr fM28 hM36 (by first | decide | omega | (dsimp only; omega))
                have q97_12_M36 : (M36 97 12 = M 97 12) := (show M36 97 12 = M28 97 12 by rw [hM36]; exact mu_ne _ _ (by first | decide | omega)).trans q97_12_M28
                have q97_19_M36 : (M36 97 19 = M 97 19) := (show M36 97 19 = M28 97 19 by rw [hM36]; exact mu_ne _ _ (by first | decide | omega)).trans q97_19_M28
                have q97_21_M36 : (M36 97 21 = M 97 21) := (show M36 97 21 = M28 97 21 by rw [hM36]; exact mu_ne _ _ (by first | decide | omega)).trans q97_21_M28
                have q97_32_M36 : (M36 97 32 = M 97 32) := (show M36 97 32 = M28 97 32 by rw [hM36]; exact mu_ne _ _ (by first | decide | omega)).trans q97_32_M28
                have q97_17_M36 : (M36 97 17 = M 97 17) := (show M36 97 17 = M28 97 17 by rw [hM36]; exact mu_ne _ _ (by first | decide | omega)).trans q97_17_M28
                have q97_33_M36 : (M36 97 33 = M 97 33) := (show M36 97 33 = M28 97 33 by rw [hM36]; exact mu_ne _ _ (by first | decide | omega)).trans q97_33_M28
                have q97_10_M36 : (M36 97 10 = M 97 10) := (show M36 97 10 = M28 97 10 by rw [hM36]; exact mu_ne _ _ (by first | decide | omega)).trans q97_10_M28
                have q97_44_M36 : (M36 97 44 = M 97 44) := (show M36 97 44 = M28 97 44 by rw [hM36]; exact mu_ne _ _ (by first | decide | omega)).trans q97_44_M28
                have wM36_97_31 : M36 97 31 = M28 97 31 := by rw [hM36]; exact mu_ne _ _ (by first | decide | omega)
                have xM36_97_30 : M36 97 30 = 0 := by rw [hM36]; exact mu_at _ _ _ _
                have qM36 : M36 112 = ms (M1 112) (((n + (-1)) - 1).toNat) z26 := (show M36 112 = M28 112 by rw [hM36]; exact mu_cell _ _ (by decide)).trans qM28
                refine g_goto (tgt := 221) dX10_reckonAll_156 rfl ?_
                refine g_goto (tgt := 10) dX10_reckonAll_221 rfl ?_
                refine g_sub [0, 1, 4, 5, 6] rfl ?_
                exact ih _ (by omega) (n + (-1)) (k + 1) M36 iM36 fM36 q97_12_M36 q97_19_M36 q97_21_M36 q97_32_M36 q97_17_M36 q97_33_M36 q97_10_M36 q97_44_M36 hab h hz0 hst (by omega) (by omega) (by omega) (RKI.bi g es pr bv ⟨by omega, by omega⟩ gv12 (by omega) yv23 yv24 (Or.inl ⟨by omega, (rcM27 (by omega)).trans (okV_in (by omega))⟩) (by rw [qM36, show ((n + (-1)) - 1).toNat = (n - 2).toNat by omega]) (by omega) (by omega)) rfl
              · replace q33 := q33.resolve_left (fun h => absurd (c35.symm.trans h.1) (by decide))
                refine g_iconst (pc' := 149) dX10_reckonAll_148 rfl ?_
                refine g_goto (tgt := 153) dX10_reckonAll_149 rfl ?_
                refine g_putZ (pc' := 156) dX10_reckonAll_153 rfl p_X10_301 rfl rfl (by omega) (fun M37 hM37 => ?_)
                have iM37 : IM M37 := IM.wr iM28 hM37 (by unfold okv; first | decide | omega)
                have fM37 : Fr (fun c => c = 97 ∨ c = 112) M M37 := Fr.wr fM28 hM37 (by first | decide | omega | (dsimp only; omega))
                have q97_12_M37 : (M37 97 12 = M 97 12) := (show M37 97 12 = M28 97 12 by rw [hM37]; exact mu_ne _ _ (by first | decide | omega)).trans q97_12_M28
                have q97_19_M37 : (M37 97 19 = M 97 19) := (show M37 97 19 = M28 97 19 by rw [hM37]; exact mu_ne _ _ (by first | decide | omega)).trans q97_19_M28
                have q97_21_M37 : (M37 97 21 = M 97 21) := (show M37 97 21 = M28 97 21 by rw [hM37]; exact mu_ne _ _ (by first | decide | omega)).trans q97_21_M28
                have q97_32_M37 : (M37 97 32 = M 97 32) := (show M37 97 32 = M28 97 32 by rw [hM37]; exact mu_ne _ _ (by first | decide | omega)).trans q97_32_M28
                have q97_17_M37 : (M37 97 17 = M 97 17) := (show M37 97 17 = M28 97 17 by rw [hM37]; exact mu_ne _ _ (by first | decide | omega)).trans q97_17_M28
                have q97_33_M37 : (M37 97 33 = M 97 33) := (show M37 97 33 = M28 97 33 by rw [hM37]; exact mu_ne _ _ (by first | decide | omega)).trans q97_33_M28
                have q97_10_M37 : (M37 97 10 = M 97 10) := (show M37 97 10 = M28 97 10 by rw [hM37]; exact mu_ne _ _ (by first | decide | omega)).trans q97_10_M28
                have q97_44_M37 : (M37 97 44 = M 97 44) := (show M37 97 44 = M28 97 44 by rw [hM37]; exact mu_ne _ _ (by first | decide | omega)).trans q97_44_M28
                have wM37_97_31 : M37 97 31 = M28 97 31 := by rw [hM37]; exact mu_ne _ _ (by first | decide | omega)
                have xM37_97_30 : M37 97 30 = 1 := by rw [hM37]; exact mu_at _ _ _ _
                have qM37 : M37 112 = ms (M1 112) (((n + (-1)) - 1).toNat) z26 := (show M37 112 = M28 112 by rw [hM37]; exact mu_cell _ _ (by decide)).trans qM28
                refine g_goto (tgt := 221) dX10_reckonAll_156 rfl ?_
                refine g_goto (tgt := 10) dX10_reckonAll_221 rfl ?_
                refine g_sub [0, 1, 4, 5, 6] rfl ?_
                exact ih _ (by omega) (n + (-1)) (k + 1) M37 iM37 fM37 q97_12_M37 q97_19_M37 q97_21_M37 q97_32_M37 q97_17_M37 q97_33_M37 q97_10_M37 q97_44_M37 hab h hz0 hst (by omega) (by omega) (by omega) (RKI.bi g es pr bv ⟨by omega, by omega⟩ gv12 (by omega) yv23 yv24 (Or.inr ⟨by omega, (rcM27 (by omega)).trans (okV_out (by omega))⟩) (by rw [qM37, show ((n + (-1)) - 1).toNat = (n - 2).toNat by omega]) (by omega) (by omega)) rfl
        · obtain ⟨u, st, g, pil, bv⟩ := rk.2.1 (by omega)
          
          refine g_aload_n (pc' := 52) 4 dX10_reckonAll_51 rfl rfl ?_
          refine g_getR (pc' := 55) dX10_reckonAll_52 rfl f_X10_58 rfl rfl ?_
          refine g_iload_n (pc' := 56) 3 dX10_reckonAll_55 rfl rfl ?_
          refine g_iload (pc' := 58) 2 dX10_reckonAll_56 rfl rfl ?_
          refine g_if_ne (pc' := 61) (tgt := 67) rv12 dX10_reckonAll_58 rfl rfl (fun c38 => ?_) (fun c38 => ?_)
          · refine g_aload_n (pc' := 68) 4 dX10_reckonAll_67 rfl rfl ?_
            refine g_iload (pc' := 70) 2 dX10_reckonAll_68 rfl rfl ?_
            refine g_iload (pc' := 72) 1 dX10_reckonAll_70 rfl rfl ?_
            refine g_callVlp (pc' := 75) (As := [vi v12, vi v13]) (b := 97) (S := [vi n, vr X 112]) dX10_reckonAll_72 rfl m_X10_304 w_X10_partOf (c_X10_partOf_z X M1 ic1 v12 rv12 v13 rv13 (by omega) (by omega)) rfl ⟨_, _, _, rfl, rfl, rfl⟩ (by decide) (by decide) rfl (Nat.le_of_ble_eq_true rfl) (fun z40 q39 => ?_)
            have po := q39.2
            rw [fr1 99 (by decide), fr1 101 (by decide), show M1 97 32 = M 97 32 from q97_32] at po
            have pi := q39.1
            clear q39
            refine g_last (pc' := 76) dX10_reckonAll_75 rfl rfl (by omega) (by omega) ⟨by omega, by omega⟩ (fun M41 hM41 => ?_)
            have iM41 : IM M41 := IM.wr ic1 hM41 (by unfold okv; first | decide | omega)
            have fM41 : Fr (fun c => c = 97 ∨ c = 112) M M41 := Fr.wr fr1 hM41 (by first | decide | omega | (dsimp only; omega))
            have q97_12_M41 : (M41 97 12 = M 97 12) := (show M41 97 12 = M1 97 12 by rw [hM41]; exact mu_ne _ _ (by first | decide | omega)).trans q97_12
            have q97_19_M41 : (M41 97 19 = M 97 19) := (show M41 97 19 = M1 97 19 by rw [hM41]; exact mu_ne _ _ (by first | decide | omega)).trans q97_19
            have q97_21_M41 : (M41 97 21 = M 97 21) := (show M41 97 21 = M1 97 21 by rw [hM41]; exact mu_ne _ _ (by first | decide | omega)).trans q97_21
            have q97_32_M41 : (M41 97 32 = M 97 32) := (show M41 97 32 = M1 97 32 by rw [hM41]; exact mu_ne _ _ (by first | decide | omega)).trans q97_32
            have q97_17_M41 : (M41 97 17 = M 97 17) := (show M41 97 17 = M1 97 17 by rw [hM41]; exact mu_ne _ _ (by first | decide | omega)).trans q97_17
            have q97_33_M41 : (M41 97 33 = M 97 33) := (show M41 97 33 = M1 97 33 by rw [hM41]; exact mu_ne _ _ (by first | decide | omega)).trans q97_33
            have q97_10_M41 : (M41 97 10 = M 97 10) := (show M41 97 10 = M1 97 10 by rw [hM41]; exact mu_ne _ _ (by first | decide | omega)).trans q97_10
            have q97_44_M41 : (M41 97 44 = M 97 44) := (show M41 97 44 = M1 97 44 by rw [hM41]; exact mu_ne _ _ (by first | decide | omega)).trans q97_44
            have wM41_97_30 : M41 97 30 = M1 97 30 := by rw [hM41]; exact mu_ne _ _ (by first | decide | omega)
            have wM41_97_31 : M41 97 31 = M1 97 31 := by rw [hM41]; exact mu_ne _ _ (by first | decide | omega)
            have qM41 : M41 112 = ms (M1 112) n.toNat z40 := by rw [hM41, mu_is]
            refine g_iinc (pc' := 79) (L' := [(3, vi (n + 1)), (4, vi (k + 1)), (6, vi v13), (5, vi v12), (0, vr X 97), (1, vi a), (2, vi b)]) 3 dX10_reckonAll_76 rfl rfl (by decide) rfl ?_
            refine g_goto (tgt := 221) dX10_reckonAll_79 rfl ?_
            refine g_goto (tgt := 10) dX10_reckonAll_221 rfl ?_
            refine g_sub [0, 1, 4, 5, 6] rfl ?_
            exact ih _ (by omega) (n + 1) (k + 1) M41 iM41 fM41 q97_12_M41 q97_19_M41 q97_21_M41 q97_32_M41 q97_17_M41 q97_33_M41 q97_10_M41 q97_44_M41 hab h hz0 hst (by omega) (by omega) (by omega) (RKI.lf g pil bv ⟨by omega, by omega⟩ gv12 gv13 (by omega) (by rw [if_neg (by omega)]; exact po) (by omega) qM41 (by omega) (by omega) (by omega)) rfl
          · refine g_iload (pc' := 63) 1 dX10_reckonAll_61 rfl rfl ?_
            refine g_i2l (pc' := 64) rv13 dX10_reckonAll_63 rfl ?_
            refine g_goto (tgt := 75) dX10_reckonAll_64 rfl ?_
            refine g_last (pc' := 76) dX10_reckonAll_75 rfl rfl (by omega) (by omega) ⟨by omega, by omega⟩ (fun M42 hM42 => ?_)
            have iM42 : IM M42 := IM.wr ic1 hM42 (by unfold okv; first | decide | omega)
            have fM42 : Fr (fun c => c = 97 ∨ c = 112) M M42 := Fr.wr fr1 hM42 (by first | decide | omega | (dsimp only; omega))
            have q97_12_M42 : (M42 97 12 = M 97 12) := (show M42 97 12 = M1 97 12 by rw [hM42]; exact mu_ne _ _ (by first | decide | omega)).trans q97_12
            have q97_19_M42 : (M42 97 19 = M 97 19) := (show M42 97 19 = M1 97 19 by rw [hM42]; exact mu_ne _ _ (by first | decide | omega)).trans q97_19
            have q97_21_M42 : (M42 97 21 = M 97 21) := (show M42 97 21 = M1 97 21 by rw [hM42]; exact mu_ne _ _ (by first | decide | omega)).trans q97_21
            have q97_32_M42 : (M42 97 32 = M 97 32) := (show M42 97 32 = M1 97 32 by rw [hM42]; exact mu_ne _ _ (by first | decide | omega)).trans q97_32
            have q97_17_M42 : (M42 97 17 = M 97 17) := (show M42 97 17 = M1 97 17 by rw [hM42]; exact mu_ne _ _ (by first | decide | omega)).trans q97_17
            have q97_33_M42 : (M42 97 33 = M 97 33) := (show M42 97 33 = M1 97 33 by rw [hM42]; exact mu_ne _ _ (by first | decide | omega)).trans q97_33
            have q97_10_M42 : (M42 97 10 = M 97 10) := (show M42 97 10 = M1 97 10 by rw [hM42]; exact mu_ne _ _ (by first | decide | omega)).trans q97_10
            have q97_44_M42 : (M42 97 44 = M 97 44) := (show M42 97 44 = M1 97 44 by rw [hM42]; exact mu_ne _ _ (by first | decide | omega)).trans q97_44
            have wM42_97_30 : M42 97 30 = M1 97 30 := by rw [hM42]; exact mu_ne _ _ (by first | decide | omega)
            have wM42_97_31 : M42 97 31 = M1 97 31 := by rw [hM42]; exact mu_ne _ _ (by first | decide | omega)
            have qM42 : M42 112 = ms (M1 112) n.toNat v13 := by rw [hM42, mu_is]
            refine g_iinc (pc' := 79) (L' := [(3, vi (n + 1)), (4, vi (k + 1)), (6, vi v13), (5, vi v12), (0, vr X 97), (1, vi a), (2, vi b)]) 3 dX10_reckonAll_76 rfl rfl (by decide) rfl ?_
            refine g_goto (tgt := 221) dX10_reckonAll_79 rfl ?_
            refine g_goto (tgt := 10) dX10_reckonAll_221 rfl ?_
            refine g_sub [0, 1, 4, 5, 6] rfl ?_
            exact ih _ (by omega) (n + 1) (k + 1) M42 iM42 fM42 q97_12_M42 q97_19_M42 q97_21_M42 q97_32_M42 q97_17_M42 q97_33_M42 q97_10_M42 q97_44_M42 hab h hz0 hst (by omega) (by omega) (by omega) (RKI.lf g pil bv ⟨by omega, by omega⟩ gv12 gv13 (by omega) (by rw [if_pos (by omega)]) (by omega) qM42 (by omega) (by omega) (by omega)) rfl
set_option maxHeartbeats 4000000 in
set_option maxRecDepth 100000 in
theorem c_X10_reckonAll_z (X : Cx) (M : Mm) (hi : IM M) (a : Int) (ha : inI a) (b : Int) (hb : inI b) (hrg : RG (M 108) (M 109) a b) (f : Mng) (mr : MR (M 108) (M 109) a.toNat b.toNat f) : Con X 3 yX10_reckonAll cX10_reckonAll 7 none [vr X 97, vi a, vi b] M (Qv (fun M1 => IM M1 ∧ Fr (fun c => c = 97 ∨ c = 112) M M1 ∧ M1 97 12 = M 97 12 ∧ M1 97 19 = M 97 19 ∧ M1 97 21 = M 97 21 ∧ M1 97 32 = M 97 32 ∧ M1 97 17 = M 97 17 ∧ M1 97 33 = M 97 33 ∧ M1 97 10 = M 97 10 ∧ M1 97 44 = M 97 44 ∧ (inL (M1 97 31) ∧ VLQ (evE (M 99 0) (M 97 32) (M 101) (fun j => M 99 (4 + j))) f (M1 97 30) (M1 97 31)))) := by
  refine Con.ofG rfl (Nat.le_of_ble_eq_true rfl) ?_
  show G X 3 RX10 cX10_reckonAll 7 none (Qv (fun M1 => IM M1 ∧ Fr (fun c => c = 97 ∨ c = 112) M M1 ∧ M1 97 12 = M 97 12 ∧ M1 97 19 = M 97 19 ∧ M1 97 21 = M 97 21 ∧ M1 97 32 = M 97 32 ∧ M1 97 17 = M 97 17 ∧ M1 97 33 = M 97 33 ∧ M1 97 10 = M 97 10 ∧ M1 97 44 = M 97 44 ∧ (inL (M1 97 31) ∧ VLQ (evE (M 99 0) (M 97 32) (M 101) (fun j => M 99 (4 + j))) f (M1 97 30) (M1 97 31)))) 0 [(0, vr X 97), (1, vi a), (2, vi b)] [] M
  have hrg2 := hrg
  obtain ⟨hab, h, hz0, hst⟩ := hrg2
  refine g_aload_n (pc' := 1) 0 dX10_reckonAll_0 rfl rfl ?_
  refine g_iconst (pc' := 2) dX10_reckonAll_1 rfl ?_
  refine g_putZ (pc' := 5) dX10_reckonAll_2 rfl p_X10_301 rfl rfl (by omega) (fun M1 hM1 => ?_)
  have iM1 : IM M1 := IM.wr hi hM1 (by unfold okv; first | decide | omega)
  have fM1 : Fr (fun c => c = 97 ∨ c = 112) M M1 := Fr.wr Fr.rf hM1 (by first | decide | omega | (dsimp only; omega))
  have q97_12_M1 : (M1 97 12 = M 97 12) := (show M1 97 12 = M 97 12 by rw [hM1]; exact mu_ne _ _ (by first | decide | omega))
  have q97_19_M1 : (M1 97 19 = M 97 19) := (show M1 97 19 = M 97 19 by rw [hM1]; exact mu_ne _ _ (by first | decide | omega))
  have q97_21_M1 : (M1 97 21 = M 97 21) := (show M1 97 21 = M 97 21 by rw [hM1]; exact mu_ne _ _ (by first | decide | omega))
  have q97_32_M1 : (M1 97 32 = M 97 32) := (show M1 97 32 = M 97 32 by rw [hM1]; exact mu_ne _ _ (by first | decide | omega))
  have q97_17_M1 : (M1 97 17 = M 97 17) := (show M1 97 17 = M 97 17 by rw [hM1]; exact mu_ne _ _ (by first | decide | omega))
  have q97_33_M1 : (M1 97 33 = M 97 33) := (show M1 97 33 = M 97 33 by rw [hM1]; exact mu_ne _ _ (by first | decide | omega))
  have q97_10_M1 : (M1 97 10 = M 97 10) := (show M1 97 10 = M 97 10 by rw [hM1]; exact mu_ne _ _ (by first | decide | omega))
  have q97_44_M1 : (M1 97 44 = M 97 44) := (show M1 97 44 = M 97 44 by rw [hM1]; exact mu_ne _ _ (by first | decide | omega))
  have wM1_97_31 : M1 97 31 = M 97 31 := by rw [hM1]; exact mu_ne _ _ (by first | decide | omega)
  have xM1_97_30 : M1 97 30 = 0 := by rw [hM1]; exact mu_at _ _ _ _
  have qM1 : M1 112 = M 112 := (show M1 112 = M 112 by rw [hM1]; exact mu_cell _ _ (by decide))
  refine g_iconst (pc' := 6) dX10_reckonAll_5 rfl ?_
  refine g_istore_n (pc' := 7) (i := 3) (L' := [(3, vi 0), (0, vr X 97), (1, vi a), (2, vi b)]) dX10_reckonAll_6 rfl rfl (by decide) rfl ?_
  refine g_iload_n (pc' := 8) 2 dX10_reckonAll_7 rfl rfl ?_
  refine g_istore (pc' := 10) (L' := [(4, vi a), (3, vi 0), (0, vr X 97), (1, vi a), (2, vi b)]) dX10_reckonAll_8 rfl (by decide) rfl ?_
  refine g_sub [1, 0, 2, 3, 4] rfl ?_
  exact l_X10_reckonAll_z_10 X M hi a ha b hb hrg f mr _ 0 a M1 iM1 fM1 q97_12_M1 q97_19_M1 q97_21_M1 q97_32_M1 q97_17_M1 q97_33_M1 q97_10_M1 q97_44_M1 hab h hz0 hst (by omega) hz0.symm (by omega) (RKI.st0 mr rfl (by omega)) rfl
