set_option maxHeartbeats 4000000 in
set_option maxRecDepth 100000 in
theorem c_X10_room_x (X : Cx) (M : Mm) (hi : IM M) (g : Int) (hg : inI g) (hg5 : 0 ≤ g ∧ g ≤ 5) : Con X 1 yX10_room cX10_room 2 (some .int) [vr X 97, vi g] M (Qi (fun r M1 => M1 = M ∧ ((r = M 99 (4 + g.toNat) - flm (M 101) g.toNat) ∧ (-60 ≤ r ∧ r ≤ 60) ∧ ∃ f : Int, (0 ≤ f ∧ f ≤ 60) ∧ M 101 (4 * g.toNat) + M 101 (4 * g.toNat + 1) + M 101 (4 * g.toNat + 2) + M 101 (4 * g.toNat + 3) = f * M 101 24 ∧ r ≤ 60 - f ∧ flm (M 101) g.toNat = f))) := by
  refine Con.ofG rfl (Nat.le_of_ble_eq_true rfl) ?_
  show G X 1 RX10 cX10_room 2 (some .int) (Qi (fun r M1 => M1 = M ∧ ((r = M 99 (4 + g.toNat) - flm (M 101) g.toNat) ∧ (-60 ≤ r ∧ r ≤ 60) ∧ ∃ f : Int, (0 ≤ f ∧ f ≤ 60) ∧ M 101 (4 * g.toNat) + M 101 (4 * g.toNat + 1) + M 101 (4 * g.toNat + 2) + M 101 (4 * g.toNat + 3) = f * M 101 24 ∧ r ≤ 60 - f ∧ flm (M 101) g.toNat = f))) 0 [(0, vr X 97), (1, vi g)] [] M
  refine g_aload_n (pc' := 1) 0 dX10_room_0 rfl rfl ?_
  refine g_getR (pc' := 4) dX10_room_1 rfl f_X10_13 rfl rfl ?_
  refine g_iconst (pc' := 5) dX10_room_4 rfl ?_
  refine g_iload_n (pc' := 6) 1 dX10_room_5 rfl rfl ?_
  refine g_iadd (pc' := 7) dX10_room_6 rfl ?_
  refine g_iald (pc' := 8) dX10_room_7 rfl rfl (by omega) (by omega) (fun v1 ev1 rv1 => ?_)
  have dv1 : 0 ≤ v1 ∧ v1 ≤ 60 := by rw [ev1]; exact hi.1.sz (by omega) (by omega)
  refine g_aload_n (pc' := 9) 0 dX10_room_8 rfl rfl ?_
  refine g_iload_n (pc' := 10) 1 dX10_room_9 rfl rfl ?_
  refine g_callVip (pc' := 13) (As := [vi g]) (b := 97) (S := [vi v1]) dX10_room_10 rfl m_X10_99 w_X10_full (c_X10_full X M hi g hg ⟨by omega, by omega⟩) rfl ⟨_, _, _, rfl, rfl, rfl⟩ (by decide) (by decide) rfl (Nat.le_of_ble_eq_true rfl) (fun z3 q2 => ?_)
  refine g_isub (pc' := 14) dX10_room_13 rfl ?_
  refine g_ireturn dX10_room_14 ?_
  have fe := flm_at (m := M 101) (g := g.toNat) (f := z3) hi.2.1.1.1 (by unfold sm4; exact q2.2.symm)
  have fq := q2.1
  exact ⟨rfl, by rw [fe, ev1, show (4 + g).toNat = 4 + g.toNat by omega], by omega, z3, fq, q2.2, by omega, fe⟩
set_option maxHeartbeats 4000000 in
set_option maxRecDepth 100000 in
theorem c_X10_tasteOf_x (X : Cx) (M : Mm) (hi : IM M) (g : Int) (hg : inI g) (s : Int) (hs : inI s) (hg5 : 0 ≤ g ∧ g ≤ 5) (hs3 : 0 ≤ s ∧ s ≤ 3) : Con X 1 yX10_tasteOf cX10_tasteOf 4 (some .int) [vr X 97, vi g, vi s] M (Qi (fun r M1 => M1 = M ∧ ((0 ≤ r ∧ r ≤ 100) ∧ r = tsM (M 101) g s))) := by
  refine Con.ofG rfl (Nat.le_of_ble_eq_true rfl) ?_
  show G X 1 RX10 cX10_tasteOf 4 (some .int) (Qi (fun r M1 => M1 = M ∧ ((0 ≤ r ∧ r ≤ 100) ∧ r = tsM (M 101) g s))) 0 [(0, vr X 97), (1, vi g), (2, vi s)] [] M
  have tb := tsM_b (g := g) (s := s) hi.2.1 hg5 hs3
  refine g_aload_n (pc' := 1) 0 dX10_tasteOf_0 rfl rfl ?_
  refine g_iload_n (pc' := 2) 1 dX10_tasteOf_1 rfl rfl ?_
  refine g_callVip (pc' := 5) (As := [vi g]) (b := 97) (S := []) dX10_tasteOf_2 rfl m_X10_99 w_X10_full (c_X10_full X M hi g hg ⟨by omega, by omega⟩) rfl ⟨_, _, _, rfl, rfl, rfl⟩ (by decide) (by decide) rfl (Nat.le_of_ble_eq_true rfl) (fun z2 q1 => ?_)
  refine g_istore_n (pc' := 6) (i := 3) (L' := [(3, vi z2), (0, vr X 97), (1, vi g), (2, vi s)]) dX10_tasteOf_5 rfl rfl (by decide) rfl ?_
  refine g_iload_n (pc' := 7) 0 dX10_tasteOf_6 rfl rfl ?_
  refine g_if_ne (pc' := 10) (tgt := 14) ⟨by omega, by omega⟩ dX10_tasteOf_7 rfl rfl (fun c3 => ?_) (fun c3 => ?_)
  · refine g_ldc2 (pc' := 17) (v := 100) dX10_tasteOf_14 rfl k_X10_110 ?_
    refine g_aload_n (pc' := 18) 1 dX10_tasteOf_17 rfl rfl ?_
    refine g_getR (pc' := 21) dX10_tasteOf_18 rfl f_X10_19 rfl rfl ?_
    refine g_iconst (pc' := 22) dX10_tasteOf_21 rfl ?_
    refine g_iload_n (pc' := 23) 2 dX10_tasteOf_22 rfl rfl ?_
    refine g_imul (pc' := 24) dX10_tasteOf_23 rfl ?_
    refine g_iload_n (pc' := 25) 3 dX10_tasteOf_24 rfl rfl ?_
    refine g_iadd (pc' := 26) dX10_tasteOf_25 rfl ?_
    refine g_lald (pc' := 27) dX10_tasteOf_26 rfl rfl (by omega) (by omega) (fun v4 ev4 rv4 => ?_)
    have bv4 : 0 ≤ v4 ∧ v4 ≤ 6000000000000000 := by rw [ev4]; exact PIw.le hi.2.1 (by omega)
    refine g_lmul (pc' := 28) dX10_tasteOf_27 rfl ?_
    refine g_iload_n (pc' := 29) 0 dX10_tasteOf_28 rfl rfl ?_
    refine g_i2l (pc' := 30) ⟨by omega, by omega⟩ dX10_tasteOf_29 rfl ?_
    refine g_aload_n (pc' := 31) 1 dX10_tasteOf_30 rfl rfl ?_
    refine g_getR (pc' := 34) dX10_tasteOf_31 rfl f_X10_19 rfl rfl ?_
    refine g_bipush (pc' := 36) (v := 24) dX10_tasteOf_34 rfl (by decide) ?_
    refine g_lald (pc' := 37) dX10_tasteOf_36 rfl rfl (by decide) (by decide) (fun v5 ev5 rv5 => ?_)
    have ev5 : v5 = M 101 24 := ev5
    have bv5 : 1 ≤ v5 ∧ v5 ≤ 100000000000000 := by rw [ev5]; exact hi.2.1.1
    refine g_lmul (pc' := 38) dX10_tasteOf_37 rfl ?_
    have hm := mul60 (f := z2) (L := v5) (B := 100000000000000) (by omega) (by omega) (by omega) (by omega)
    have hm1 : 0 < z2 * v5 := Int.mul_pos (by omega) (by omega)
    have fe := flm_at (m := M 101) (g := g.toNat) (f := z2) hi.2.1.1.1 (by unfold sm4; exact q1.2.symm)
    have tq : (100 * v4).tdiv (z2 * v5) = tsM (M 101) g s := by
      unfold tsM
      rw [fe, if_neg (by omega), ev4, ev5]
    rw [← tq] at tb
    refine g_ldiv (pc' := 39) ⟨by omega, by omega⟩ ⟨by omega, by omega⟩ (by omega) dX10_tasteOf_38 rfl ?_
    refine g_l2i (pc' := 40) dX10_tasteOf_39 rfl ?_
    refine g_ireturn dX10_tasteOf_40 ?_
    exact ⟨rfl, tb, tq⟩
  · refine g_iconst (pc' := 11) dX10_tasteOf_10 rfl ?_
    refine g_goto (tgt := 40) dX10_tasteOf_11 rfl ?_
    refine g_ireturn dX10_tasteOf_40 ?_
    have fe := flm_at (m := M 101) (g := g.toNat) (f := z2) hi.2.1.1.1 (by unfold sm4; exact q1.2.symm)
    exact ⟨rfl, by omega, by unfold tsM; rw [fe, if_pos (by omega)]⟩
set_option maxHeartbeats 4000000 in
set_option maxRecDepth 100000 in
theorem l_X10_lessen_x_35 (X : Cx) (M : Mm) (B : Int) (hB : 1 ≤ B ∧ B ≤ 6000000000000000) (hp : PIw B (M 101)) : ∀ (kk : Nat) (d : Int) (k : Int) (M1 : Mm) (d1 : 1 ≤ d ∧ d ≤ M 101 24) (dg : d = gF (M 101) (M 101 24) 24) (dv : ∀ j : Nat, j < 25 → d ∣ M 101 j) (k0 : 0 ≤ k) (k1 : k ≤ 25) (fr1 : Fr (fun c => c = 101) M M1) (cp : ∀ j : Nat, (j : Int) < k → M1 101 (0 + j) = M 101 j / d) (rs : ∀ j : Nat, k ≤ (j : Int) → M1 101 (0 + j) = M 101 j), (25 - k).toNat = kk → G X 1 RX10 cX10_lessen 4 none (Qv (fun M1 => Fr (fun c => c = 101) M M1 ∧ PIw B (M1 101) ∧ LSQ (M 101) (M1 101))) 35 [(1, vl d), (3, vi k), (0, vr X 97)] [] M1 := by
  intro kk
  induction kk using Nat.strongRecOn with
  | ind kk ih =>
    intro d k M1 d1 dg dv k0 k1 fr1 cp rs hmes
    have hL := hp.1
    refine g_iload_n (pc' := 36) 1 dX10_lessen_35 rfl rfl ?_
    refine g_bipush (pc' := 38) (v := 25) dX10_lessen_36 rfl (by decide) ?_
    refine g_ic_ge (pc' := 41) (tgt := 57) ⟨by omega, by omega⟩ (by decide) dX10_lessen_38 rfl rfl (fun c1 => ?_) (fun c1 => ?_)
    · refine g_vreturn dX10_lessen_57 ?_
      have ce : ∀ i : Nat, i < 25 → M1 101 i = M 101 i / d := fun i hi => by have := cp i (by omega); rw [Nat.zero_add] at this; exact this
      exact ⟨fr1, PIw.div hp d1.1 dv ce, LSQ.of dg dv ce⟩
    · refine g_aload_n (pc' := 42) 2 dX10_lessen_41 rfl rfl ?_
      refine g_getR (pc' := 45) dX10_lessen_42 rfl f_X10_19 rfl rfl ?_
      refine g_iload_n (pc' := 46) 1 dX10_lessen_45 rfl rfl ?_
      refine g_dup2_11 (pc' := 47) dX10_lessen_46 rfl rfl rfl ?_
      refine g_lald (pc' := 48) dX10_lessen_47 rfl rfl (by omega) (by omega) (fun v2 ev2 rv2 => ?_)
      have gv2 : v2 = M 101 k.toNat := by have := rs k.toNat (by omega); rw [Nat.zero_add] at this; rw [ev2]; exact this
      have bv2 : 0 ≤ v2 ∧ v2 ≤ 60 * B := by rw [gv2]; exact PIw.le25 hp (by omega)
      refine g_lload_n (pc' := 49) 0 dX10_lessen_48 rfl rfl ?_
      refine g_ldiv (pc' := 50) rv2 ⟨by omega, by omega⟩ (by omega) dX10_lessen_49 rfl ?_
      obtain ⟨qe, q0, q1⟩ := ediv_rng (v := v2) (d := d) (by omega) (by omega)
      obtain ⟨qq, hqq⟩ : ∃ z : Int, z = v2 / d := ⟨_, rfl⟩
      rw [qe, ← hqq]
      rw [← hqq] at q0 q1
      have hvF : qq = M 101 k.toNat / d := by rw [hqq, gv2]
      refine g_last (pc' := 51) dX10_lessen_50 rfl rfl (by omega) (by omega) ⟨by omega, by omega⟩ (fun M3 hM3 => ?_)
      have fM3 : Fr (fun c => c = 101) M M3 := Fr.wr fr1 hM3 (by first | decide | omega | (dsimp only; omega))
      refine g_iinc (pc' := 54) (L' := [(3, vi (k + 1)), (1, vl d), (0, vr X 97)]) 1 dX10_lessen_51 rfl rfl (by decide) rfl ?_
      refine g_goto (tgt := 35) dX10_lessen_54 rfl ?_
      refine g_sub [1, 0, 2] rfl ?_
      exact ih _ (by omega) d (k + 1) M3 (by omega) dg dv (by omega) (by omega) fM3 (cstep (F := fun j => M 101 j / d) cp hM3 (by omega) k0 hvF) (rstep (F := M 101) rs hM3 (by omega) k0) rfl
set_option maxHeartbeats 4000000 in
set_option maxRecDepth 100000 in
theorem l_X10_lessen_x_10 (X : Cx) (M : Mm) (B : Int) (hB : 1 ≤ B ∧ B ≤ 6000000000000000) (hp : PIw B (M 101)) : ∀ (kk : Nat) (d : Int) (k : Int) (d1 : 1 ≤ d ∧ d ≤ M 101 24) (dg : d = gF (M 101) (M 101 24) k.toNat) (dL : d ∣ M 101 24) (dv : ∀ j : Nat, (j : Int) < k → d ∣ M 101 j) (k0 : 0 ≤ k) (k1 : k ≤ 24), (24 - k).toNat = kk → G X 1 RX10 cX10_lessen 4 none (Qv (fun M1 => Fr (fun c => c = 101) M M1 ∧ PIw B (M1 101) ∧ LSQ (M 101) (M1 101))) 10 [(1, vl d), (3, vi k), (0, vr X 97)] [] M := by
  intro kk
  induction kk using Nat.strongRecOn with
  | ind kk ih =>
    intro d k d1 dg dL dv k0 k1 hmes
    have hL := hp.1
    refine g_iload_n (pc' := 11) 1 dX10_lessen_10 rfl rfl ?_
    refine g_bipush (pc' := 13) (v := 24) dX10_lessen_11 rfl (by decide) ?_
    refine g_ic_ge (pc' := 16) (tgt := 33) ⟨by omega, by omega⟩ (by decide) dX10_lessen_13 rfl rfl (fun c1 => ?_) (fun c1 => ?_)
    · refine g_iconst (pc' := 34) dX10_lessen_33 rfl ?_
      refine g_istore_n (pc' := 35) (i := 3) (L' := [(3, vi 0), (1, vl d), (0, vr X 97)]) dX10_lessen_34 rfl rfl (by decide) rfl ?_
      refine g_sub [1, 0, 2] rfl ?_
      exact l_X10_lessen_x_35 X M B hB hp _ d 0 M (by omega) (by have q := dg; rw [show k.toNat = 24 by omega] at q; exact q) (dv25 dv (by omega) dL) (by omega) (by omega) Fr.rf (fun j hj => by omega) (fun j _ => by rw [Nat.zero_add]) rfl
    · refine g_lload_n (pc' := 17) 0 dX10_lessen_16 rfl rfl ?_
      refine g_aload_n (pc' := 18) 2 dX10_lessen_17 rfl rfl ?_
      refine g_getR (pc' := 21) dX10_lessen_18 rfl f_X10_19 rfl rfl ?_
      refine g_iload_n (pc' := 22) 1 dX10_lessen_21 rfl rfl ?_
      refine g_lald (pc' := 23) dX10_lessen_22 rfl rfl (by omega) (by omega) (fun v2 ev2 rv2 => ?_)
      have bv2 : 0 ≤ v2 ∧ v2 ≤ 60 * B := by rw [ev2]; exact PIw.le hp (by omega)
      refine g_callSlp (pc' := 26) (As := [vl d, vl v2]) (S := []) dX10_lessen_23 rfl m_X10_116 w_X10_common (c_X10_common_x X M d ⟨by omega, by omega⟩ v2 rv2 (by omega) (by omega)) rfl (by decide) (by decide) rfl (Nat.le_of_ble_eq_true rfl) (fun z4 q3 => ?_)
      have cq := comq q3 (by omega)
      have dg2 := gF_st2 dg k0 ev2 q3
      refine g_lstore_n (pc' := 27) (i := 1) (L' := [(1, vl z4), (3, vi k), (0, vr X 97)]) dX10_lessen_26 rfl rfl (by decide) rfl ?_
      refine g_iinc (pc' := 30) (L' := [(3, vi (k + 1)), (1, vl z4), (0, vr X 97)]) 1 dX10_lessen_27 rfl rfl (by decide) rfl ?_
      refine g_goto (tgt := 10) dX10_lessen_30 rfl ?_
      refine g_sub [1, 0, 2] rfl ?_
      exact ih _ (by omega) z4 (k + 1) (by omega) dg2 (Int.dvd_trans cq.2.2.1 dL) (dstep (F := M 101) dv cq.2.2.1 cq.2.2.2 ev2 k0) (by omega) (by omega) rfl
set_option maxHeartbeats 4000000 in
set_option maxRecDepth 100000 in
theorem c_X10_lessen_x (X : Cx) (M : Mm) (B : Int) (hB : 1 ≤ B ∧ B ≤ 6000000000000000) (hp : PIw B (M 101)) : Con X 1 yX10_lessen cX10_lessen 4 none [vr X 97] M (Qv (fun M1 => Fr (fun c => c = 101) M M1 ∧ PIw B (M1 101) ∧ LSQ (M 101) (M1 101))) := by
  refine Con.ofG rfl (Nat.le_of_ble_eq_true rfl) ?_
  show G X 1 RX10 cX10_lessen 4 none (Qv (fun M1 => Fr (fun c => c = 101) M M1 ∧ PIw B (M1 101) ∧ LSQ (M 101) (M1 101))) 0 [(0, vr X 97)] [] M
  refine g_aload_n (pc' := 1) 0 dX10_lessen_0 rfl rfl ?_
  refine g_getR (pc' := 4) dX10_lessen_1 rfl f_X10_19 rfl rfl ?_
  refine g_bipush (pc' := 6) (v := 24) dX10_lessen_4 rfl (by decide) ?_
  refine g_lald (pc' := 7) dX10_lessen_6 rfl rfl (by decide) (by decide) (fun v1 ev1 rv1 => ?_)
  have ev1 : v1 = M 101 24 := ev1
  have bv1 : 1 ≤ v1 ∧ v1 ≤ B := by rw [ev1]; exact hp.1
  refine g_lstore_n (pc' := 8) (i := 1) (L' := [(1, vl v1), (0, vr X 97)]) dX10_lessen_7 rfl rfl (by decide) rfl ?_
  refine g_iconst (pc' := 9) dX10_lessen_8 rfl ?_
  refine g_istore_n (pc' := 10) (i := 3) (L' := [(3, vi 0), (1, vl v1), (0, vr X 97)]) dX10_lessen_9 rfl rfl (by decide) rfl ?_
  refine g_sub [1, 0, 2] rfl ?_
  exact l_X10_lessen_x_10 X M B hB hp _ v1 0 (by omega) ev1 (by first | exact Int.dvd_refl _ | (rw [ev1]; exact Int.dvd_refl _)) (fun j hj => by omega) (by omega) (by omega) rfl
set_option maxHeartbeats 4000000 in
set_option maxRecDepth 100000 in
theorem c_X10_filled_x (X : Cx) (M : Mm) (hi : IM M) (g : Int) (hg : inI g) (s : Int) (hs : inI s) (a : Int) (ha : inI a) (hg5 : 0 ≤ g ∧ g ≤ 5) (hs3 : 0 ≤ s ∧ s ≤ 3) (ha6 : 1 ≤ a ∧ a ≤ 60) : Con X 2 yX10_filled cX10_filled 4 (some .int) [vr X 97, vi g, vi s, vi a] M (Qi (fun r M1 => IM M1 ∧ Fr (fun c => c = 101) M M1 ∧ (FIL (M 101) (fun j => M 99 (4 + j)) g s a r (M1 101)))) := by
  refine Con.ofG rfl (Nat.le_of_ble_eq_true rfl) ?_
  show G X 2 RX10 cX10_filled 4 (some .int) (Qi (fun r M1 => IM M1 ∧ Fr (fun c => c = 101) M M1 ∧ (FIL (M 101) (fun j => M 99 (4 + j)) g s a r (M1 101)))) 0 [(0, vr X 97), (1, vi g), (2, vi s), (3, vi a)] [] M
  refine g_aload_n (pc' := 1) 0 dX10_filled_0 rfl rfl ?_
  refine g_iload_n (pc' := 2) 1 dX10_filled_1 rfl rfl ?_
  refine g_callVip (pc' := 5) (As := [vi g]) (b := 97) (S := []) dX10_filled_2 rfl m_X10_120 w_X10_room (c_X10_room_x X M hi g hg ⟨by omega, by omega⟩) rfl ⟨_, _, _, rfl, rfl, rfl⟩ (by decide) (by decide) rfl (Nat.le_of_ble_eq_true rfl) (fun z2 q1 => ?_)
  obtain ⟨rm1, rm2, f1, hf1, hs1, hr1, fe1⟩ := q1
  refine g_iload_n (pc' := 6) 3 dX10_filled_5 rfl rfl ?_
  refine g_ic_ge (pc' := 9) (tgt := 12) ⟨by omega, by omega⟩ ha dX10_filled_6 rfl rfl (fun c3 => ?_) (fun c3 => ?_)
  · refine g_aload_n (pc' := 13) 0 dX10_filled_12 rfl rfl ?_
    refine g_getR (pc' := 16) dX10_filled_13 rfl f_X10_19 rfl rfl ?_
    refine g_iconst (pc' := 17) dX10_filled_16 rfl ?_
    refine g_iload_n (pc' := 18) 1 dX10_filled_17 rfl rfl ?_
    refine g_imul (pc' := 19) dX10_filled_18 rfl ?_
    refine g_iload_n (pc' := 20) 2 dX10_filled_19 rfl rfl ?_
    refine g_iadd (pc' := 21) dX10_filled_20 rfl ?_
    refine g_dup2_11 (pc' := 22) dX10_filled_21 rfl rfl rfl ?_
    refine g_lald (pc' := 23) dX10_filled_22 rfl rfl (by omega) (by omega) (fun v4 ev4 rv4 => ?_)
    have bv4 : 0 ≤ v4 ∧ v4 ≤ 6000000000000000 := by rw [ev4]; exact PIw.le hi.2.1 (by omega)
    refine g_iload_n (pc' := 24) 3 dX10_filled_23 rfl rfl ?_
    refine g_i2l (pc' := 25) ha dX10_filled_24 rfl ?_
    refine g_aload_n (pc' := 26) 0 dX10_filled_25 rfl rfl ?_
    refine g_getR (pc' := 29) dX10_filled_26 rfl f_X10_19 rfl rfl ?_
    refine g_bipush (pc' := 31) (v := 24) dX10_filled_29 rfl (by decide) ?_
    refine g_lald (pc' := 32) dX10_filled_31 rfl rfl (by decide) (by decide) (fun v5 ev5 rv5 => ?_)
    have ev5 : v5 = M 101 24 := ev5
    have bv5 : 1 ≤ v5 ∧ v5 ≤ 100000000000000 := by rw [ev5]; exact hi.2.1.1
    refine g_lmul (pc' := 33) dX10_filled_32 rfl ?_
    have hm := mul60 (f := a) (L := v5) (B := 100000000000000) (by omega) (by omega) (by omega) (by omega)
    refine g_ladd (pc' := 34) dX10_filled_33 rfl ?_
    refine g_last (pc' := 35) dX10_filled_34 rfl rfl (by omega) (by omega) ⟨by omega, by omega⟩ (fun M6 hM6 => ?_)
    have fM6 : Fr (fun c => c = 101) M M6 := Fr.wr Fr.rf hM6 (by first | decide | omega | (dsimp only; omega))
    have iM6 : IM M6 := by
      refine IM.parts hi fM6 (fun c hc => by omega) ?_
      refine PIw.fill (m := M 101) (m' := M6 101) (g := g.toNat) (s := s.toNat) (a := a) hi.2.1 (by omega) (by omega) (by omega) f1 (by omega) hs1 ?_ (fun k hk => ?_)
      · rw [hM6, show 4 * g.toNat + s.toNat = (4 * g + s).toNat by omega, mu_at, ← ev4]
        congr 2
      · rw [hM6]
        exact mu_ne _ _ (fun _ => by omega)
    refine g_iconst (pc' := 36) dX10_filled_35 rfl ?_
    refine g_ireturn dX10_filled_36 ?_
    exact ⟨iM6, fM6, fun _ => ⟨rfl, by rw [hM6, mu_is]; rw [ev4, ev5]⟩, fun z => absurd (show a ≤ M 99 (4 + g.toNat) - _ by omega) z⟩
  · refine g_bipush (pc' := 11) (v := (-3)) dX10_filled_9 rfl (by decide) ?_
    refine g_ireturn dX10_filled_11 ?_
    exact ⟨hi, Fr.rf, fun z => absurd z (by show ¬ a ≤ M 99 (4 + g.toNat) - _; omega), fun _ => ⟨rfl, rfl⟩⟩
set_option maxHeartbeats 4000000 in
set_option maxRecDepth 100000 in
theorem l_X10_spooned_x_112 (X : Cx) (M : Mm) (hi : IM M) (g : Int) (hg : inI g) (t : Int) (ht : inI t) (a : Int) (ha : inI a) (hg5 : 0 ≤ g ∧ g ≤ 5) (ht5 : -1 ≤ t ∧ t ≤ 5) (ha6 : 1 ≤ a) : ∀ (kk : Nat) (h : Int) (s : Int) (M1 : Mm) (feg : flm (M 101) g.toNat = h) (rc : t = -1 ∨ a ≤ M 99 (4 + t.toNat) - flm (M 101) t.toNat) (hh : 1 ≤ h ∧ h ≤ 60 ∧ a ≤ h) (hgt : t ≠ g) (hsum : M 101 (4 * g.toNat) + M 101 (4 * g.toNat + 1) + M 101 (4 * g.toNat + 2) + M 101 (4 * g.toNat + 3) = h * M 101 24) (htf : SpT M t a) (fr1 : Fr (fun c => c = 101 ∨ c = 104 ∨ c = 105) M M1) (kp : ∀ j : Nat, j < 25 → M1 104 (0 + j) = M 101 j) (ku : ∀ q : Nat, 25 ≤ q → M1 104 q = M 104 q) (k0 : 0 ≤ s) (k1 : s ≤ 4) (gg : ∀ j : Nat, j < 4 → M1 105 j = M 101 (4 * g.toNat + j) * a) (pf : ∀ j : Nat, (j : Int) < s → M1 101 (4 * g.toNat + j) = M 101 (4 * g.toNat + j) * h - M 101 (4 * g.toNat + j) * a) (pt : 0 ≤ t → ∀ j : Nat, (j : Int) < s → M1 101 (4 * t.toNat + j) = M 101 (4 * t.toNat + j) * h + M 101 (4 * g.toNat + j) * a) (pr : ∀ k : Nat, k < 25 → ¬ (4 * g.toNat ≤ k ∧ (k : Int) < 4 * g + s) → (0 ≤ t → ¬ (4 * t.toNat ≤ k ∧ (k : Int) < 4 * t + s)) → M1 101 k = M 101 k * h), (4 - s).toNat = kk → G X 3 RX10 cX10_spooned 6 (some .int) (Qi (fun r M1 => IM M1 ∧ Fr (fun c => c = 101 ∨ c = 104 ∨ c = 105) M M1 ∧ (SPO (M 101) (fun j => M 99 (4 + j)) g t a r (M1 101) ∧ (∀ q : Nat, 25 ≤ q → M1 104 q = M 104 q)))) 112 [(4, vi h), (5, vi s), (0, vr X 97), (1, vi g), (2, vi t), (3, vi a)] [] M1 := by
  intro kk
  induction kk using Nat.strongRecOn with
  | ind kk ih =>
    intro h s M1 feg rc hh hgt hsum htf fr1 kp ku k0 k1 gg pf pt pr hmes
    refine g_iload (pc' := 114) 1 dX10_spooned_112 rfl rfl ?_
    refine g_iconst (pc' := 115) dX10_spooned_114 rfl ?_
    refine g_ic_ge (pc' := 118) (tgt := 171) ⟨by omega, by omega⟩ (by decide) dX10_spooned_115 rfl rfl (fun c1 => ?_) (fun c1 => ?_)
    · have hN := shr_of (m := M 101) (N := M1 101) (h := h) (g := g) (t := t) (a := a) hg5 ht5 (by omega) (fun j hj => pf j (by omega)) (fun z j hj => pt z j (by omega)) (fun k hk h1 h2 => pr k hk (by omega) (fun z => by have := h2 z; omega))
      have hN24 : M1 101 24 = M 101 24 * h := pr 24 (by omega) (by omega) (fun z => by omega)
      have hpw : PIw 6000000000000000 (M1 101) := PIw.spoon (m := M 101) (m' := M1 101) (g := g.toNat) (t := t) (a := a) (had := h) hi.2.1 (by omega) ht5 (by omega) (by omega) (by omega) hsum htf (pr 24 (by omega) (by omega) (fun z => by omega)) (fun j hj => pf j (by omega)) (fun z j hj => pt z j (by omega)) (fun k hk h1 h2 => pr k (by omega) (by omega) (fun z => by have := h2 z; omega))
      refine g_aload_n (pc' := 172) 2 dX10_spooned_171 rfl rfl ?_
      refine g_callVv (pc' := 175) (As := []) (b := 97) (S := []) dX10_spooned_172 rfl m_X10_127 w_X10_lessen (c_X10_lessen_x X M1 6000000000000000 (by omega) hpw) rfl ⟨_, _, _, rfl, rfl, rfl⟩ (by decide) (by decide) rfl (Nat.le_of_ble_eq_true rfl) (fun M3 q2 => ?_)
      obtain ⟨flM3, plM3, lsM3⟩ := q2
      have fM3 : Fr (fun c => c = 101 ∨ c = 104 ∨ c = 105) M M3 := Fr.tr fr1 flM3 (fun c z => by omega)
      have kpM3 : ∀ j : Nat, j < 25 → M3 104 (0 + j) = M 101 j := fun j hj => by rw [flM3 104 (by decide)]; exact kp j hj
      have kuM3 : ∀ q : Nat, 25 ≤ q → M3 104 q = M 104 q := fun q hq => by rw [flM3 104 (by decide)]; exact ku q hq
      refine g_aload_n (pc' := 176) 2 dX10_spooned_175 rfl rfl ?_
      refine g_getR (pc' := 179) dX10_spooned_176 rfl f_X10_19 rfl rfl ?_
      refine g_bipush (pc' := 181) (v := 24) dX10_spooned_179 rfl (by decide) ?_
      refine g_lald (pc' := 182) dX10_spooned_181 rfl rfl (by decide) (by decide) (fun v4 ev4 rv4 => ?_)
      have ev4 : v4 = M3 101 24 := ev4
      refine g_ldc2 (pc' := 185) (v := 100000000000000) dX10_spooned_182 rfl k_X10_130 ?_
      refine g_lc_le (pc' := 189) (tgt := 197) rv4 (by decide) dX10_spooned_185 dX10_spooned_186 rfl rfl (fun c5 => ?_) (fun c5 => ?_)
      · refine g_iconst (pc' := 198) dX10_spooned_197 rfl ?_
        refine g_ireturn dX10_spooned_198 ?_
        exact ⟨IM.parts hi fM3 (fun c hc => by omega) (PIw.up plM3 (by omega)), fM3, SPO.yes (by show g ≠ t ∧ a ≤ flm (M 101) g.toNat ∧ (t = -1 ∨ a ≤ M 99 (4 + t.toNat) - flm (M 101) t.toNat); omega) feg hN hN24 lsM3 (by omega), kuM3⟩
      · refine g_aload_n (pc' := 190) 2 dX10_spooned_189 rfl rfl ?_
        refine g_iconst (pc' := 191) dX10_spooned_190 rfl ?_
        refine g_callVv (pc' := 194) (As := [vi 0]) (b := 97) (S := []) dX10_spooned_191 rfl m_X10_132 w_X10_putBack (c_X10_putBack X M3 0 (by decide) ⟨by omega, by omega⟩) rfl ⟨_, _, _, rfl, rfl, rfl⟩ (by decide) (by decide) rfl (Nat.le_of_ble_eq_true rfl) (fun M7 q6 => ?_)
        obtain ⟨fbM7, pbM7⟩ := q6
        have fM7 : Fr (fun c => c = 101 ∨ c = 104 ∨ c = 105) M M7 := Fr.tr fM3 fbM7 (fun c z => by omega)
        have hpiM7 : PI (M7 101) := PIw.cg hi.2.1 (fun j hj => (pbM7 j hj).trans (kpM3 j hj))
        have kuM7 : ∀ q : Nat, 25 ≤ q → M7 104 q = M 104 q := fun q hq => by rw [fbM7 104 (by decide)]; exact kuM3 q hq
        refine g_bipush (pc' := 196) (v := (-5)) dX10_spooned_194 rfl (by decide) ?_
        refine g_ireturn dX10_spooned_196 ?_
        exact ⟨IM.parts hi fM7 (fun c hc => by omega) hpiM7, fM7, SPO.room (by show g ≠ t ∧ a ≤ flm (M 101) g.toNat ∧ (t = -1 ∨ a ≤ M 99 (4 + t.toNat) - flm (M 101) t.toNat); omega) feg hN hN24 hpw.1.1 lsM3 (by omega) (fun j hj => (pbM7 j hj).trans (kpM3 j hj)), kuM7⟩
    · refine g_aload_n (pc' := 119) 2 dX10_spooned_118 rfl rfl ?_
      refine g_getR (pc' := 122) dX10_spooned_119 rfl f_X10_19 rfl rfl ?_
      refine g_iconst (pc' := 123) dX10_spooned_122 rfl ?_
      refine g_iload_n (pc' := 124) 3 dX10_spooned_123 rfl rfl ?_
      refine g_imul (pc' := 125) dX10_spooned_124 rfl ?_
      refine g_iload (pc' := 127) 1 dX10_spooned_125 rfl rfl ?_
      refine g_iadd (pc' := 128) dX10_spooned_127 rfl ?_
      refine g_dup2_11 (pc' := 129) dX10_spooned_128 rfl rfl rfl ?_
      refine g_lald (pc' := 130) dX10_spooned_129 rfl rfl (by omega) (by omega) (fun v8 ev8 rv8 => ?_)
      have gv8 : v8 = M 101 (4 * g.toNat + s.toNat) * h := by rw [ev8, show (4 * g + s).toNat = 4 * g.toNat + s.toNat by omega]; exact pr _ (by omega) (by omega) (fun z => by omega)
      have b0v8 := PIw.le hi.2.1 (k := 4 * g.toNat + s.toNat) (by omega)
      have b1v8 := mulB (h := h) b0v8.1 b0v8.2 (by omega) (by omega)
      refine g_aload_n (pc' := 131) 2 dX10_spooned_130 rfl rfl ?_
      refine g_getR (pc' := 134) dX10_spooned_131 rfl f_X10_33 rfl rfl ?_
      refine g_iload (pc' := 136) 1 dX10_spooned_134 rfl rfl ?_
      refine g_lald (pc' := 137) dX10_spooned_136 rfl rfl (by omega) (by omega) (fun v9 ev9 rv9 => ?_)
      have gv9 : v9 = M 101 (4 * g.toNat + s.toNat) * a := by rw [ev9]; exact gg _ (by omega)
      have b0v9 := PIw.le hi.2.1 (k := 4 * g.toNat + s.toNat) (by omega)
      have b1v9 := mulB (h := a) b0v9.1 b0v9.2 (by omega) (by omega)
      refine g_lsub (pc' := 138) dX10_spooned_137 rfl ?_
      refine g_last (pc' := 139) dX10_spooned_138 rfl rfl (by omega) (by omega) ⟨by omega, by omega⟩ (fun M10 hM10 => ?_)
      have fM10 : Fr (fun c => c = 101 ∨ c = 104 ∨ c = 105) M M10 := Fr.wr fr1 hM10 (by first | decide | omega | (dsimp only; omega))
      have kuM10 : ∀ q : Nat, 25 ≤ q → M10 104 q = M 104 q := fun q hq => by rw [hM10, mu_cell _ _ (by decide)]; exact ku q hq
      have kpM10 : ∀ j : Nat, j < 25 → M10 104 (0 + j) = M 101 j := fun j hj => by rw [hM10, mu_cell _ _ (by decide)]; exact kp j hj
      have ggM10 : ∀ j : Nat, j < 4 → M10 105 j = M 101 (4 * g.toNat + j) * a := fun j hj => by rw [hM10, mu_cell _ _ (by decide)]; exact gg j hj
      have pfM10 : ∀ j : Nat, (j : Int) < s + 1 → M10 101 (4 * g.toNat + j) = M 101 (4 * g.toNat + j) * h - M 101 (4 * g.toNat + j) * a := cstep (F := fun j => M 101 (4 * g.toNat + j) * h - M 101 (4 * g.toNat + j) * a) pf hM10 (by omega) k0 (by rw [gv8, gv9])
      have prM10 : ∀ k : Nat, k < 25 → ¬ (4 * g.toNat ≤ k ∧ (k : Int) < 4 * g + (s + 1)) → (0 ≤ t → ¬ (4 * t.toNat ≤ k ∧ (k : Int) < 4 * t + s)) → M10 101 k = M 101 k * h := fun k hk h1 h2 => by rw [hM10, mu_ne _ _ (fun _ => by omega)]; exact pr k hk (by omega) h2
      have ptM10 : 0 ≤ t → ∀ j : Nat, (j : Int) < s → M10 101 (4 * t.toNat + j) = M 101 (4 * t.toNat + j) * h + M 101 (4 * g.toNat + j) * a := fun z j hj => by rw [hM10, mu_ne _ _ (fun _ => by omega)]; exact pt z j hj
      refine g_iload_n (pc' := 140) 4 dX10_spooned_139 rfl rfl ?_
      refine g_iconst (pc' := 141) dX10_spooned_140 rfl ?_
      refine g_ic_eq (pc' := 144) (tgt := 165) ht (by decide) dX10_spooned_141 rfl rfl (fun c11 => ?_) (fun c11 => ?_)
      · refine g_iinc (pc' := 168) (L' := [(5, vi (s + 1)), (4, vi h), (0, vr X 97), (1, vi g), (2, vi t), (3, vi a)]) 1 dX10_spooned_165 rfl rfl (by decide) rfl ?_
        refine g_goto (tgt := 112) dX10_spooned_168 rfl ?_
        refine g_sub [1, 0, 2, 3, 4, 5] rfl ?_
        exact ih _ (by omega) h (s + 1) M10 feg rc (by omega) (by omega) hsum htf fM10 kpM10 kuM10 (by omega) (by omega) ggM10 pfM10 (fun z j hj => absurd z (by omega)) (fun k hk h1 h2 => prM10 k hk h1 (fun z => by omega)) rfl
      · refine g_aload_n (pc' := 145) 2 dX10_spooned_144 rfl rfl ?_
        refine g_getR (pc' := 148) dX10_spooned_145 rfl f_X10_19 rfl rfl ?_
        refine g_iconst (pc' := 149) dX10_spooned_148 rfl ?_
        refine g_iload_n (pc' := 150) 4 dX10_spooned_149 rfl rfl ?_
        refine g_imul (pc' := 151) dX10_spooned_150 rfl ?_
        refine g_iload (pc' := 153) 1 dX10_spooned_151 rfl rfl ?_
        refine g_iadd (pc' := 154) dX10_spooned_153 rfl ?_
        refine g_dup2_11 (pc' := 155) dX10_spooned_154 rfl rfl rfl ?_
        refine g_lald (pc' := 156) dX10_spooned_155 rfl rfl (by omega) (by omega) (fun v12 ev12 rv12 => ?_)
        have gv12 : v12 = M 101 (4 * t.toNat + s.toNat) * h := by rw [ev12, hM10, mu_ne _ _ (fun _ => by omega), show (4 * t + s).toNat = 4 * t.toNat + s.toNat by omega]; exact pr _ (by omega) (by omega) (fun z => by omega)
        have b0v12 := PIw.le hi.2.1 (k := 4 * t.toNat + s.toNat) (by omega)
        have b1v12 := mulB (h := h) b0v12.1 b0v12.2 (by omega) (by omega)
        refine g_aload_n (pc' := 157) 2 dX10_spooned_156 rfl rfl ?_
        refine g_getR (pc' := 160) dX10_spooned_157 rfl f_X10_33 rfl rfl ?_
        refine g_iload (pc' := 162) 1 dX10_spooned_160 rfl rfl ?_
        refine g_lald (pc' := 163) dX10_spooned_162 rfl rfl (by omega) (by omega) (fun v13 ev13 rv13 => ?_)
        have gv13 : v13 = M 101 (4 * g.toNat + s.toNat) * a := by rw [ev13, hM10, mu_cell _ _ (by decide)]; exact gg _ (by omega)
        have b0v13 := PIw.le hi.2.1 (k := 4 * g.toNat + s.toNat) (by omega)
        have b1v13 := mulB (h := a) b0v13.1 b0v13.2 (by omega) (by omega)
        refine g_ladd (pc' := 164) dX10_spooned_163 rfl ?_
        refine g_last (pc' := 165) dX10_spooned_164 rfl rfl (by omega) (by omega) ⟨by omega, by omega⟩ (fun M14 hM14 => ?_)
        have fM14 : Fr (fun c => c = 101 ∨ c = 104 ∨ c = 105) M M14 := Fr.wr fM10 hM14 (by first | decide | omega | (dsimp only; omega))
        have kuM14 : ∀ q : Nat, 25 ≤ q → M14 104 q = M 104 q := fun q hq => by rw [hM14, mu_cell _ _ (by decide)]; exact kuM10 q hq
        have kpM14 : ∀ j : Nat, j < 25 → M14 104 (0 + j) = M 101 j := fun j hj => by rw [hM14, mu_cell _ _ (by decide)]; exact kpM10 j hj
        have ggM14 : ∀ j : Nat, j < 4 → M14 105 j = M 101 (4 * g.toNat + j) * a := fun j hj => by rw [hM14, mu_cell _ _ (by decide)]; exact ggM10 j hj
        have pfM14 : ∀ j : Nat, (j : Int) < s + 1 → M14 101 (4 * g.toNat + j) = M 101 (4 * g.toNat + j) * h - M 101 (4 * g.toNat + j) * a := fun j hj => by rw [hM14, mu_ne _ _ (fun _ => by omega)]; exact pfM10 j hj
        have ptM14 : 0 ≤ t → ∀ j : Nat, (j : Int) < s + 1 → M14 101 (4 * t.toNat + j) = M 101 (4 * t.toNat + j) * h + M 101 (4 * g.toNat + j) * a := fun z => cstep (F := fun j => M 101 (4 * t.toNat + j) * h + M 101 (4 * g.toNat + j) * a) (ptM10 z) hM14 (by omega) k0 (by rw [gv12, gv13])
        have prM14 : ∀ k : Nat, k < 25 → ¬ (4 * g.toNat ≤ k ∧ (k : Int) < 4 * g + (s + 1)) → (0 ≤ t → ¬ (4 * t.toNat ≤ k ∧ (k : Int) < 4 * t + (s + 1))) → M14 101 k = M 101 k * h := fun k hk h1 h2 => by rw [hM14, mu_ne _ _ (fun _ => by omega)]; exact prM10 k hk h1 (fun z => by have := h2 z; omega)
        refine g_iinc (pc' := 168) (L' := [(5, vi (s + 1)), (4, vi h), (0, vr X 97), (1, vi g), (2, vi t), (3, vi a)]) 1 dX10_spooned_165 rfl rfl (by decide) rfl ?_
        refine g_goto (tgt := 112) dX10_spooned_168 rfl ?_
        refine g_sub [1, 0, 2, 3, 4, 5] rfl ?_
        exact ih _ (by omega) h (s + 1) M14 feg rc (by omega) (by omega) hsum htf fM14 kpM14 kuM14 (by omega) (by omega) ggM14 pfM14 ptM14 prM14 rfl
set_option maxHeartbeats 4000000 in
set_option maxRecDepth 100000 in
theorem l_X10_spooned_x_72 (X : Cx) (M : Mm) (hi : IM M) (g : Int) (hg : inI g) (t : Int) (ht : inI t) (a : Int) (ha : inI a) (hg5 : 0 ≤ g ∧ g ≤ 5) (ht5 : -1 ≤ t ∧ t ≤ 5) (ha6 : 1 ≤ a) : ∀ (kk : Nat) (h : Int) (s : Int) (M1 : Mm) (feg : flm (M 101) g.toNat = h) (rc : t = -1 ∨ a ≤ M 99 (4 + t.toNat) - flm (M 101) t.toNat) (hh : 1 ≤ h ∧ h ≤ 60 ∧ a ≤ h) (hgt : t ≠ g) (hsum : M 101 (4 * g.toNat) + M 101 (4 * g.toNat + 1) + M 101 (4 * g.toNat + 2) + M 101 (4 * g.toNat + 3) = h * M 101 24) (htf : SpT M t a) (fr1 : Fr (fun c => c = 101 ∨ c = 104 ∨ c = 105) M M1) (kp : ∀ j : Nat, j < 25 → M1 104 (0 + j) = M 101 j) (ku : ∀ q : Nat, 25 ≤ q → M1 104 q = M 104 q) (k0 : 0 ≤ s) (k1 : s ≤ 4) (hc1 : ∀ j : Nat, j < 25 → M1 101 j = M 101 j * h) (gg : ∀ j : Nat, (j : Int) < s → M1 105 (0 + j) = M 101 (4 * g.toNat + j) * a), (4 - s).toNat = kk → G X 3 RX10 cX10_spooned 6 (some .int) (Qi (fun r M1 => IM M1 ∧ Fr (fun c => c = 101 ∨ c = 104 ∨ c = 105) M M1 ∧ (SPO (M 101) (fun j => M 99 (4 + j)) g t a r (M1 101) ∧ (∀ q : Nat, 25 ≤ q → M1 104 q = M 104 q)))) 72 [(4, vi h), (5, vi s), (0, vr X 97), (1, vi g), (2, vi t), (3, vi a)] [] M1 := by
  intro kk
  induction kk using Nat.strongRecOn with
  | ind kk ih =>
    intro h s M1 feg rc hh hgt hsum htf fr1 kp ku k0 k1 hc1 gg hmes
    refine g_iload (pc' := 74) 1 dX10_spooned_72 rfl rfl ?_
    refine g_iconst (pc' := 75) dX10_spooned_74 rfl ?_
    refine g_ic_ge (pc' := 78) (tgt := 109) ⟨by omega, by omega⟩ (by decide) dX10_spooned_75 rfl rfl (fun c1 => ?_) (fun c1 => ?_)
    · refine g_iconst (pc' := 110) dX10_spooned_109 rfl ?_
      refine g_istore (pc' := 112) (L' := [(5, vi 0), (4, vi h), (0, vr X 97), (1, vi g), (2, vi t), (3, vi a)]) dX10_spooned_110 rfl (by decide) rfl ?_
      refine g_sub [1, 0, 2, 3, 4, 5] rfl ?_
      exact l_X10_spooned_x_112 X M hi g hg t ht a ha hg5 ht5 ha6 _ h 0 M1 feg rc (by omega) (by omega) hsum htf fr1 kp ku (by omega) (by omega) (fun j hj => by have := gg j (by omega); rw [Nat.zero_add] at this; exact this) (fun j hj => by omega) (fun _ j hj => by omega) (fun k hk _ _ => hc1 k hk) rfl
    · refine g_aload_n (pc' := 79) 2 dX10_spooned_78 rfl rfl ?_
      refine g_getR (pc' := 82) dX10_spooned_79 rfl f_X10_33 rfl rfl ?_
      refine g_iload (pc' := 84) 1 dX10_spooned_82 rfl rfl ?_
      refine g_aload_n (pc' := 85) 2 dX10_spooned_84 rfl rfl ?_
      refine g_getR (pc' := 88) dX10_spooned_85 rfl f_X10_19 rfl rfl ?_
      refine g_iconst (pc' := 89) dX10_spooned_88 rfl ?_
      refine g_iload_n (pc' := 90) 3 dX10_spooned_89 rfl rfl ?_
      refine g_imul (pc' := 91) dX10_spooned_90 rfl ?_
      refine g_iload (pc' := 93) 1 dX10_spooned_91 rfl rfl ?_
      refine g_iadd (pc' := 94) dX10_spooned_93 rfl ?_
      refine g_lald (pc' := 95) dX10_spooned_94 rfl rfl (by omega) (by omega) (fun v2 ev2 rv2 => ?_)
      have gv2 : v2 = M 101 (4 * g.toNat + s.toNat) * h := by rw [ev2, show (4 * g + s).toNat = 4 * g.toNat + s.toNat by omega]; exact hc1 _ (by omega)
      have b0v2 := PIw.le hi.2.1 (k := 4 * g.toNat + s.toNat) (by omega)
      refine g_iload (pc' := 97) 0 dX10_spooned_95 rfl rfl ?_
      refine g_i2l (pc' := 98) ⟨by omega, by omega⟩ dX10_spooned_97 rfl ?_
      have hm := mulB (h := h) b0v2.1 b0v2.2 (by omega) (by omega)
      rw [← gv2] at hm
      refine g_ldiv (pc' := 99) rv2 ⟨by omega, by omega⟩ (by omega) dX10_spooned_98 rfl ?_
      have hdd : v2.tdiv h = M 101 (4 * g.toNat + s.toNat) := by rw [gv2]; exact Int.mul_tdiv_cancel _ (by omega)
      rw [hdd]
      obtain ⟨dd, hde⟩ : ∃ z : Int, z = M 101 (4 * g.toNat + s.toNat) := ⟨_, rfl⟩
      rw [← hde] at b0v2 ⊢
      refine g_iload_n (pc' := 100) 5 dX10_spooned_99 rfl rfl ?_
      refine g_i2l (pc' := 101) ha dX10_spooned_100 rfl ?_
      refine g_lmul (pc' := 102) dX10_spooned_101 rfl ?_
      have hm2 := mulB (v := dd) (h := a) (B := 60 * 100000000000000) (by omega) (by omega) (by omega) (by omega)
      obtain ⟨pp, hpp⟩ : ∃ z : Int, z = dd * a := ⟨_, rfl⟩
      rw [← hpp] at hm2 ⊢
      have hvF : pp = M 101 (4 * g.toNat + s.toNat) * a := by rw [hpp, hde]
      refine g_last (pc' := 103) dX10_spooned_102 rfl rfl (by omega) (by omega) ⟨by omega, by omega⟩ (fun M3 hM3 => ?_)
      have fM3 : Fr (fun c => c = 101 ∨ c = 104 ∨ c = 105) M M3 := Fr.wr fr1 hM3 (by first | decide | omega | (dsimp only; omega))
      have kuM3 : ∀ q : Nat, 25 ≤ q → M3 104 q = M 104 q := fun q hq => by rw [hM3, mu_cell _ _ (by decide)]; exact ku q hq
      have kpM3 : ∀ j : Nat, j < 25 → M3 104 (0 + j) = M 101 j := fun j hj => by rw [hM3, mu_cell _ _ (by decide)]; exact kp j hj
      refine g_iinc (pc' := 106) (L' := [(5, vi (s + 1)), (4, vi h), (0, vr X 97), (1, vi g), (2, vi t), (3, vi a)]) 1 dX10_spooned_103 rfl rfl (by decide) rfl ?_
      refine g_goto (tgt := 72) dX10_spooned_106 rfl ?_
      refine g_sub [1, 0, 2, 3, 4, 5] rfl ?_
      exact ih _ (by omega) h (s + 1) M3 feg rc (by omega) (by omega) hsum htf fM3 kpM3 kuM3 (by omega) (by omega) (fun j hj => by rw [hM3, mu_cell _ _ (by decide)]; exact hc1 j hj) (cstep (F := fun j => M 101 (4 * g.toNat + j) * a) gg hM3 (by omega) k0 hvF) rfl
set_option maxHeartbeats 4000000 in
set_option maxRecDepth 100000 in
theorem l_X10_spooned_x_43 (X : Cx) (M : Mm) (hi : IM M) (g : Int) (hg : inI g) (t : Int) (ht : inI t) (a : Int) (ha : inI a) (hg5 : 0 ≤ g ∧ g ≤ 5) (ht5 : -1 ≤ t ∧ t ≤ 5) (ha6 : 1 ≤ a) : ∀ (kk : Nat) (h : Int) (k : Int) (M1 : Mm) (feg : flm (M 101) g.toNat = h) (rc : t = -1 ∨ a ≤ M 99 (4 + t.toNat) - flm (M 101) t.toNat) (hh : 1 ≤ h ∧ h ≤ 60 ∧ a ≤ h) (hgt : t ≠ g) (hsum : M 101 (4 * g.toNat) + M 101 (4 * g.toNat + 1) + M 101 (4 * g.toNat + 2) + M 101 (4 * g.toNat + 3) = h * M 101 24) (htf : SpT M t a) (fr1 : Fr (fun c => c = 101 ∨ c = 104 ∨ c = 105) M M1) (kp : ∀ j : Nat, j < 25 → M1 104 (0 + j) = M 101 j) (ku : ∀ q : Nat, 25 ≤ q → M1 104 q = M 104 q) (k0 : 0 ≤ k) (k1 : k ≤ 25) (cp : ∀ j : Nat, (j : Int) < k → M1 101 (0 + j) = M 101 j * h) (rs : ∀ j : Nat, k ≤ (j : Int) → M1 101 (0 + j) = M 101 j), (25 - k).toNat = kk → G X 3 RX10 cX10_spooned 6 (some .int) (Qi (fun r M1 => IM M1 ∧ Fr (fun c => c = 101 ∨ c = 104 ∨ c = 105) M M1 ∧ (SPO (M 101) (fun j => M 99 (4 + j)) g t a r (M1 101) ∧ (∀ q : Nat, 25 ≤ q → M1 104 q = M 104 q)))) 43 [(4, vi h), (5, vi k), (0, vr X 97), (1, vi g), (2, vi t), (3, vi a)] [] M1 := by
  intro kk
  induction kk using Nat.strongRecOn with
  | ind kk ih =>
    intro h k M1 feg rc hh hgt hsum htf fr1 kp ku k0 k1 cp rs hmes
    refine g_iload (pc' := 45) 1 dX10_spooned_43 rfl rfl ?_
    refine g_bipush (pc' := 47) (v := 25) dX10_spooned_45 rfl (by decide) ?_
    refine g_ic_ge (pc' := 50) (tgt := 69) ⟨by omega, by omega⟩ (by decide) dX10_spooned_47 rfl rfl (fun c1 => ?_) (fun c1 => ?_)
    · refine g_iconst (pc' := 70) dX10_spooned_69 rfl ?_
      refine g_istore (pc' := 72) (L' := [(5, vi 0), (4, vi h), (0, vr X 97), (1, vi g), (2, vi t), (3, vi a)]) dX10_spooned_70 rfl (by decide) rfl ?_
      refine g_sub [1, 0, 2, 3, 4, 5] rfl ?_
      exact l_X10_spooned_x_72 X M hi g hg t ht a ha hg5 ht5 ha6 _ h 0 M1 feg rc (by omega) (by omega) hsum htf fr1 kp ku (by omega) (by omega) (fun j hj => by have := cp j (by omega); rw [Nat.zero_add] at this; exact this) (fun j hj => by omega) rfl
    · refine g_aload_n (pc' := 51) 2 dX10_spooned_50 rfl rfl ?_
      refine g_getR (pc' := 54) dX10_spooned_51 rfl f_X10_19 rfl rfl ?_
      refine g_iload (pc' := 56) 1 dX10_spooned_54 rfl rfl ?_
      refine g_dup2_11 (pc' := 57) dX10_spooned_56 rfl rfl rfl ?_
      refine g_lald (pc' := 58) dX10_spooned_57 rfl rfl (by omega) (by omega) (fun v2 ev2 rv2 => ?_)
      have gv2 : v2 = M 101 k.toNat := by have := rs k.toNat (by omega); rw [Nat.zero_add] at this; rw [ev2]; exact this
      have bv2 : 0 ≤ v2 ∧ v2 ≤ 60 * 100000000000000 := by rw [gv2]; exact PIw.le25 hi.2.1 (by omega)
      refine g_iload (pc' := 60) 0 dX10_spooned_58 rfl rfl ?_
      refine g_i2l (pc' := 61) ⟨by omega, by omega⟩ dX10_spooned_60 rfl ?_
      refine g_lmul (pc' := 62) dX10_spooned_61 rfl ?_
      have hm := mulB (v := v2) (h := h) (B := 60 * 100000000000000) (by omega) (by omega) (by omega) (by omega)
      obtain ⟨pp, hpp⟩ : ∃ z : Int, z = v2 * h := ⟨_, rfl⟩
      rw [← hpp] at hm ⊢
      have hvF : pp = M 101 k.toNat * h := by rw [hpp, gv2]
      refine g_last (pc' := 63) dX10_spooned_62 rfl rfl (by omega) (by omega) ⟨by omega, by omega⟩ (fun M3 hM3 => ?_)
      have fM3 : Fr (fun c => c = 101 ∨ c = 104 ∨ c = 105) M M3 := Fr.wr fr1 hM3 (by first | decide | omega | (dsimp only; omega))
      have kuM3 : ∀ q : Nat, 25 ≤ q → M3 104 q = M 104 q := fun q hq => by rw [hM3, mu_cell _ _ (by decide)]; exact ku q hq
      have kpM3 : ∀ j : Nat, j < 25 → M3 104 (0 + j) = M 101 j := fun j hj => by rw [hM3, mu_cell _ _ (by decide)]; exact kp j hj
      refine g_iinc (pc' := 66) (L' := [(5, vi (k + 1)), (4, vi h), (0, vr X 97), (1, vi g), (2, vi t), (3, vi a)]) 1 dX10_spooned_63 rfl rfl (by decide) rfl ?_
      refine g_goto (tgt := 43) dX10_spooned_66 rfl ?_
      refine g_sub [1, 0, 2, 3, 4, 5] rfl ?_
      exact ih _ (by omega) h (k + 1) M3 feg rc (by omega) (by omega) hsum htf fM3 kpM3 kuM3 (by omega) (by omega) (cstep (F := fun j => M 101 j * h) cp hM3 (by omega) k0 hvF) (rstep (F := M 101) rs hM3 (by omega) k0) rfl
set_option maxHeartbeats 4000000 in
set_option maxRecDepth 100000 in
theorem c_X10_spooned_x (X : Cx) (M : Mm) (hi : IM M) (g : Int) (hg : inI g) (t : Int) (ht : inI t) (a : Int) (ha : inI a) (hg5 : 0 ≤ g ∧ g ≤ 5) (ht5 : -1 ≤ t ∧ t ≤ 5) (ha6 : 1 ≤ a) : Con X 3 yX10_spooned cX10_spooned 6 (some .int) [vr X 97, vi g, vi t, vi a] M (Qi (fun r M1 => IM M1 ∧ Fr (fun c => c = 101 ∨ c = 104 ∨ c = 105) M M1 ∧ (SPO (M 101) (fun j => M 99 (4 + j)) g t a r (M1 101) ∧ (∀ q : Nat, 25 ≤ q → M1 104 q = M 104 q)))) := by
  refine Con.ofG rfl (Nat.le_of_ble_eq_true rfl) ?_
  show G X 3 RX10 cX10_spooned 6 (some .int) (Qi (fun r M1 => IM M1 ∧ Fr (fun c => c = 101 ∨ c = 104 ∨ c = 105) M M1 ∧ (SPO (M 101) (fun j => M 99 (4 + j)) g t a r (M1 101) ∧ (∀ q : Nat, 25 ≤ q → M1 104 q = M 104 q)))) 0 [(0, vr X 97), (1, vi g), (2, vi t), (3, vi a)] [] M
  refine g_aload_n (pc' := 1) 0 dX10_spooned_0 rfl rfl ?_
  refine g_iload_n (pc' := 2) 1 dX10_spooned_1 rfl rfl ?_
  refine g_callVip (pc' := 5) (As := [vi g]) (b := 97) (S := []) dX10_spooned_2 rfl m_X10_99 w_X10_full (c_X10_full X M hi g hg ⟨by omega, by omega⟩) rfl ⟨_, _, _, rfl, rfl, rfl⟩ (by decide) (by decide) rfl (Nat.le_of_ble_eq_true rfl) (fun z2 q1 => ?_)
  refine g_istore (pc' := 7) (L' := [(4, vi z2), (0, vr X 97), (1, vi g), (2, vi t), (3, vi a)]) dX10_spooned_5 rfl (by decide) rfl ?_
  refine g_iload_n (pc' := 8) 2 dX10_spooned_7 rfl rfl ?_
  refine g_iload_n (pc' := 9) 3 dX10_spooned_8 rfl rfl ?_
  refine g_ic_eq (pc' := 12) (tgt := 32) hg ht dX10_spooned_9 rfl rfl (fun c3 => ?_) (fun c3 => ?_)
  · refine g_bipush (pc' := 34) (v := (-3)) dX10_spooned_32 rfl (by decide) ?_
    refine g_ireturn dX10_spooned_34 ?_
    have feg := flm_at (m := M 101) (g := g.toNat) (f := z2) hi.2.1.1.1 (by unfold sm4; exact q1.2.symm)
    exact ⟨hi, Fr.rf, SPO.no (by show ¬ (g ≠ t ∧ a ≤ flm (M 101) g.toNat ∧ (t = -1 ∨ a ≤ M 99 (4 + t.toNat) - flm (M 101) t.toNat)); omega) (fun _ _ => rfl), fun _ _ => rfl⟩
  · refine g_iload (pc' := 14) 0 dX10_spooned_12 rfl rfl ?_
    refine g_iload_n (pc' := 15) 4 dX10_spooned_14 rfl rfl ?_
    refine g_ic_lt (pc' := 18) (tgt := 32) ⟨by omega, by omega⟩ ha dX10_spooned_15 rfl rfl (fun c4 => ?_) (fun c4 => ?_)
    · refine g_bipush (pc' := 34) (v := (-3)) dX10_spooned_32 rfl (by decide) ?_
      refine g_ireturn dX10_spooned_34 ?_
      have feg := flm_at (m := M 101) (g := g.toNat) (f := z2) hi.2.1.1.1 (by unfold sm4; exact q1.2.symm)
      exact ⟨hi, Fr.rf, SPO.no (by show ¬ (g ≠ t ∧ a ≤ flm (M 101) g.toNat ∧ (t = -1 ∨ a ≤ M 99 (4 + t.toNat) - flm (M 101) t.toNat)); omega) (fun _ _ => rfl), fun _ _ => rfl⟩
    · refine g_iload_n (pc' := 19) 3 dX10_spooned_18 rfl rfl ?_
      refine g_iconst (pc' := 20) dX10_spooned_19 rfl ?_
      refine g_ic_eq (pc' := 23) (tgt := 35) ht (by decide) dX10_spooned_20 rfl rfl (fun c5 => ?_) (fun c5 => ?_)
      · refine g_aload_n (pc' := 36) 1 dX10_spooned_35 rfl rfl ?_
        refine g_iconst (pc' := 37) dX10_spooned_36 rfl ?_
        refine g_callVv (pc' := 40) (As := [vi 0]) (b := 97) (S := []) dX10_spooned_37 rfl m_X10_123 w_X10_keep (c_X10_keep X M 0 (by decide) ⟨by omega, by omega⟩) rfl ⟨_, _, _, rfl, rfl, rfl⟩ (by decide) (by decide) rfl (Nat.le_of_ble_eq_true rfl) (fun M7 q6 => ?_)
        obtain ⟨fkM7, kpM7, usM7⟩ := q6
        have fM7 : Fr (fun c => c = 101 ∨ c = 104 ∨ c = 105) M M7 := Fr.tr Fr.rf fkM7 (fun c z => by omega)
        have kuM7 : ∀ q : Nat, 25 ≤ q → M7 104 q = M 104 q := fun q hq => usM7 q (Or.inr hq)
        refine g_iconst (pc' := 41) dX10_spooned_40 rfl ?_
        refine g_istore (pc' := 43) (L' := [(5, vi 0), (4, vi z2), (0, vr X 97), (1, vi g), (2, vi t), (3, vi a)]) dX10_spooned_41 rfl (by decide) rfl ?_
        refine g_sub [1, 0, 2, 3, 4, 5] rfl ?_
        exact l_X10_spooned_x_43 X M hi g hg t ht a ha hg5 ht5 ha6 _ z2 0 M7 (flm_at hi.2.1.1.1 (by unfold sm4; exact q1.2.symm)) (by omega) (by omega) (by omega) q1.2 (show SpT M t a from fun z => by omega) fM7 kpM7 kuM7 (by omega) (by omega) (fun j hj => by omega) (fun j _ => by rw [Nat.zero_add]; exact congrFun (fkM7 101 (by decide)) j) rfl
      · refine g_aload_n (pc' := 24) 1 dX10_spooned_23 rfl rfl ?_
        refine g_iload_n (pc' := 25) 3 dX10_spooned_24 rfl rfl ?_
        refine g_callVip (pc' := 28) (As := [vi t]) (b := 97) (S := []) dX10_spooned_25 rfl m_X10_120 w_X10_room (c_X10_room_x X M hi t ht ⟨by omega, by omega⟩) rfl ⟨_, _, _, rfl, rfl, rfl⟩ (by decide) (by decide) rfl (Nat.le_of_ble_eq_true rfl) (fun z9 q8 => ?_)
        obtain ⟨rm1, rm2, f1, hf1, hs1, hr1, fe1⟩ := q8
        refine g_iload_n (pc' := 29) 4 dX10_spooned_28 rfl rfl ?_
        refine g_ic_ge (pc' := 32) (tgt := 35) ⟨by omega, by omega⟩ ha dX10_spooned_29 rfl rfl (fun c10 => ?_) (fun c10 => ?_)
        · refine g_aload_n (pc' := 36) 1 dX10_spooned_35 rfl rfl ?_
          refine g_iconst (pc' := 37) dX10_spooned_36 rfl ?_
          refine g_callVv (pc' := 40) (As := [vi 0]) (b := 97) (S := []) dX10_spooned_37 rfl m_X10_123 w_X10_keep (c_X10_keep X M 0 (by decide) ⟨by omega, by omega⟩) rfl ⟨_, _, _, rfl, rfl, rfl⟩ (by decide) (by decide) rfl (Nat.le_of_ble_eq_true rfl) (fun M12 q11 => ?_)
          obtain ⟨fkM12, kpM12, usM12⟩ := q11
          have fM12 : Fr (fun c => c = 101 ∨ c = 104 ∨ c = 105) M M12 := Fr.tr Fr.rf fkM12 (fun c z => by omega)
          have kuM12 : ∀ q : Nat, 25 ≤ q → M12 104 q = M 104 q := fun q hq => usM12 q (Or.inr hq)
          refine g_iconst (pc' := 41) dX10_spooned_40 rfl ?_
          refine g_istore (pc' := 43) (L' := [(5, vi 0), (4, vi z2), (0, vr X 97), (1, vi g), (2, vi t), (3, vi a)]) dX10_spooned_41 rfl (by decide) rfl ?_
          refine g_sub [1, 0, 2, 3, 4, 5] rfl ?_
          exact l_X10_spooned_x_43 X M hi g hg t ht a ha hg5 ht5 ha6 _ z2 0 M12 (flm_at hi.2.1.1.1 (by unfold sm4; exact q1.2.symm)) (by omega) (by omega) (by omega) q1.2 (show SpT M t a from fun _ => ⟨f1, by omega, hs1⟩) fM12 kpM12 kuM12 (by omega) (by omega) (fun j hj => by omega) (fun j _ => by rw [Nat.zero_add]; exact congrFun (fkM12 101 (by decide)) j) rfl
        · refine g_bipush (pc' := 34) (v := (-3)) dX10_spooned_32 rfl (by decide) ?_
          refine g_ireturn dX10_spooned_34 ?_
          have feg := flm_at (m := M 101) (g := g.toNat) (f := z2) hi.2.1.1.1 (by unfold sm4; exact q1.2.symm)
          exact ⟨hi, Fr.rf, SPO.no (by show ¬ (g ≠ t ∧ a ≤ flm (M 101) g.toNat ∧ (t = -1 ∨ a ≤ M 99 (4 + t.toNat) - flm (M 101) t.toNat)); omega) (fun _ _ => rfl), fun _ _ => rfl⟩
