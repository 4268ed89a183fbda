set_option maxHeartbeats 4000000 in
set_option maxRecDepth 100000 in
theorem c_X10_binds (X : Cx) (M : Mm) (a : Int) (ha : inI a) : Con X 0 yX10_binds cX10_binds 1 (some .int) [vi a] M (Qi (fun r M1 => M1 = M ∧ (r = bnd a ∧ 0 ≤ r ∧ r ≤ 6))) := by
  refine Con.ofG rfl (Nat.le_of_ble_eq_true rfl) ?_
  show G X 0 RX10 cX10_binds 1 (some .int) (Qi (fun r M1 => M1 = M ∧ (r = bnd a ∧ 0 ≤ r ∧ r ≤ 6))) 0 [(0, vi a)] [] M
  refine g_iload_n (pc' := 1) 0 dX10_binds_0 rfl rfl ?_
  refine g_bipush (pc' := 3) (v := 30) dX10_binds_1 rfl (by decide) ?_
  refine g_ic_lt (pc' := 6) (tgt := 10) ha (by decide) dX10_binds_3 rfl rfl (fun c1 => ?_) (fun c1 => ?_)
  · refine g_iload_n (pc' := 11) 0 dX10_binds_10 rfl rfl ?_
    refine g_bipush (pc' := 13) (v := 29) dX10_binds_11 rfl (by decide) ?_
    refine g_ic_ne (pc' := 16) (tgt := 20) ha (by decide) dX10_binds_13 rfl rfl (fun c2 => ?_) (fun c2 => ?_)
    · refine g_iload_n (pc' := 21) 0 dX10_binds_20 rfl rfl ?_
      refine g_bipush (pc' := 23) (v := 28) dX10_binds_21 rfl (by decide) ?_
      refine g_ic_ne (pc' := 26) (tgt := 30) ha (by decide) dX10_binds_23 rfl rfl (fun c3 => ?_) (fun c3 => ?_)
      · refine g_iload_n (pc' := 31) 0 dX10_binds_30 rfl rfl ?_
        refine g_bipush (pc' := 33) (v := 27) dX10_binds_31 rfl (by decide) ?_
        refine g_ic_ne (pc' := 36) (tgt := 40) ha (by decide) dX10_binds_33 rfl rfl (fun c4 => ?_) (fun c4 => ?_)
        · refine g_iload_n (pc' := 41) 0 dX10_binds_40 rfl rfl ?_
          refine g_bipush (pc' := 43) (v := 24) dX10_binds_41 rfl (by decide) ?_
          refine g_ic_lt (pc' := 46) (tgt := 50) ha (by decide) dX10_binds_43 rfl rfl (fun c5 => ?_) (fun c5 => ?_)
          · refine g_iload_n (pc' := 51) 0 dX10_binds_50 rfl rfl ?_
            refine g_bipush (pc' := 53) (v := 22) dX10_binds_51 rfl (by decide) ?_
            refine g_ic_lt (pc' := 56) (tgt := 61) ha (by decide) dX10_binds_53 rfl rfl (fun c6 => ?_) (fun c6 => ?_)
            · refine g_iconst (pc' := 62) dX10_binds_61 rfl ?_
              refine g_ireturn dX10_binds_62 ?_
              exact ⟨rfl, bndE (by omega)⟩
            · refine g_bipush (pc' := 58) (v := 6) dX10_binds_56 rfl (by decide) ?_
              refine g_goto (tgt := 62) dX10_binds_58 rfl ?_
              refine g_ireturn dX10_binds_62 ?_
              exact ⟨rfl, bndE (by omega)⟩
          · refine g_iconst (pc' := 47) dX10_binds_46 rfl ?_
            refine g_goto (tgt := 62) dX10_binds_47 rfl ?_
            refine g_ireturn dX10_binds_62 ?_
            exact ⟨rfl, bndE (by omega)⟩
        · refine g_iconst (pc' := 37) dX10_binds_36 rfl ?_
          refine g_goto (tgt := 62) dX10_binds_37 rfl ?_
          refine g_ireturn dX10_binds_62 ?_
          exact ⟨rfl, bndE (by omega)⟩
      · refine g_iconst (pc' := 27) dX10_binds_26 rfl ?_
        refine g_goto (tgt := 62) dX10_binds_27 rfl ?_
        refine g_ireturn dX10_binds_62 ?_
        exact ⟨rfl, bndE (by omega)⟩
    · refine g_iconst (pc' := 17) dX10_binds_16 rfl ?_
      refine g_goto (tgt := 62) dX10_binds_17 rfl ?_
      refine g_ireturn dX10_binds_62 ?_
      exact ⟨rfl, bndE (by omega)⟩
  · refine g_iconst (pc' := 7) dX10_binds_6 rfl ?_
    refine g_goto (tgt := 62) dX10_binds_7 rfl ?_
    refine g_ireturn dX10_binds_62 ?_
    exact ⟨rfl, bndE (by omega)⟩
set_option maxHeartbeats 4000000 in
set_option maxRecDepth 100000 in
theorem l_X10_inner_4 (X : Cx) (M : Mm) (hi : IM M) (F0 : Int) (hs : SI M F0) : ∀ (kk : Nat) (its : Int) (k : Int) (ip : INNp M its k) (h0 : 0 ≤ k ∧ k ≤ M 97 27) (h1 : -1 ≤ its ∧ its ≤ 31), (M 97 27 - k).toNat = kk → G X 0 RX10 cX10_inner 3 (some .int) (Qi (fun r M1 => M1 = M ∧ (INN M r ∧ (-1 ≤ r ∧ r ≤ 31)))) 4 [(1, vi its), (2, vi k), (0, vr X 97)] [] M := by
  intro kk
  induction kk using Nat.strongRecOn with
  | ind kk ih =>
    intro its k ip h0 h1 hmes
    have sa := hs.ar
    refine g_iload_n (pc' := 5) 1 dX10_inner_4 rfl rfl ?_
    refine g_aload_n (pc' := 6) 2 dX10_inner_5 rfl rfl ?_
    refine g_getI (pc' := 9) dX10_inner_6 rfl f_X10_194 rfl rfl (fun v1 ev1 rv1 => ?_)
    refine g_ic_ge (pc' := 12) (tgt := 40) ⟨by omega, by omega⟩ rv1 dX10_inner_9 rfl rfl (fun c2 => ?_) (fun c2 => ?_)
    · refine g_iload_n (pc' := 41) 0 dX10_inner_40 rfl rfl ?_
      refine g_ireturn dX10_inner_41 ?_
      exact ⟨rfl, (show INNp M its (M 97 27) from (show M 97 27 = k by omega) ▸ ip), by omega⟩
    · refine g_aload_n (pc' := 13) 2 dX10_inner_12 rfl rfl ?_
      refine g_getR (pc' := 16) dX10_inner_13 rfl f_X10_52 rfl rfl ?_
      refine g_iload_n (pc' := 17) 1 dX10_inner_16 rfl rfl ?_
      refine g_iald (pc' := 18) dX10_inner_17 rfl rfl (by omega) (by omega) (fun v3 ev3 rv3 => ?_)
      have dv3 := SI.pile hs (i := k) (by omega) (by omega) ev3
      refine g_bipush (pc' := 20) (v := 30) dX10_inner_18 rfl (by decide) ?_
      refine g_ic_lt (pc' := 23) (tgt := 32) rv3 (by decide) dX10_inner_20 rfl rfl (fun c4 => ?_) (fun c4 => ?_)
      · refine g_iload_n (pc' := 33) 0 dX10_inner_32 rfl rfl ?_
        refine g_istore_n (pc' := 34) (i := 1) (L' := [(1, vi its), (2, vi k), (0, vr X 97)]) dX10_inner_33 rfl rfl (by decide) rfl ?_
        refine g_iinc (pc' := 37) (L' := [(2, vi (k + 1)), (1, vi its), (0, vr X 97)]) 1 dX10_inner_34 rfl rfl (by decide) rfl ?_
        refine g_goto (tgt := 4) dX10_inner_37 rfl ?_
        refine g_sub [1, 0, 2] rfl ?_
        exact ih _ (by omega) its (k + 1) (INNp.old ip ev3 (by omega) (by omega)) (by omega) (by omega) rfl
      · refine g_aload_n (pc' := 24) 2 dX10_inner_23 rfl rfl ?_
        refine g_getR (pc' := 27) dX10_inner_24 rfl f_X10_52 rfl rfl ?_
        refine g_iload_n (pc' := 28) 1 dX10_inner_27 rfl rfl ?_
        refine g_iald (pc' := 29) dX10_inner_28 rfl rfl (by omega) (by omega) (fun v5 ev5 rv5 => ?_)
        obtain rfl : v3 = v5 := ev3.trans ev5.symm
        refine g_goto (tgt := 33) dX10_inner_29 rfl ?_
        refine g_istore_n (pc' := 34) (i := 1) (L' := [(1, vi v3), (2, vi k), (0, vr X 97)]) dX10_inner_33 rfl rfl (by decide) rfl ?_
        refine g_iinc (pc' := 37) (L' := [(2, vi (k + 1)), (1, vi v3), (0, vr X 97)]) 1 dX10_inner_34 rfl rfl (by decide) rfl ?_
        refine g_goto (tgt := 4) dX10_inner_37 rfl ?_
        refine g_sub [1, 0, 2] rfl ?_
        exact ih _ (by omega) v3 (k + 1) (INNp.new ev3 (by omega) (by omega)) (by omega) (by omega) rfl
set_option maxHeartbeats 4000000 in
set_option maxRecDepth 100000 in
theorem c_X10_inner (X : Cx) (M : Mm) (hi : IM M) (F0 : Int) (hs : SI M F0) : Con X 0 yX10_inner cX10_inner 3 (some .int) [vr X 97] M (Qi (fun r M1 => M1 = M ∧ (INN M r ∧ (-1 ≤ r ∧ r ≤ 31)))) := by
  refine Con.ofG rfl (Nat.le_of_ble_eq_true rfl) ?_
  show G X 0 RX10 cX10_inner 3 (some .int) (Qi (fun r M1 => M1 = M ∧ (INN M r ∧ (-1 ≤ r ∧ r ≤ 31)))) 0 [(0, vr X 97)] [] M
  have sa := hs.ar
  refine g_iconst (pc' := 1) dX10_inner_0 rfl ?_
  refine g_istore_n (pc' := 2) (i := 1) (L' := [(1, vi (-1)), (0, vr X 97)]) dX10_inner_1 rfl rfl (by decide) rfl ?_
  refine g_iconst (pc' := 3) dX10_inner_2 rfl ?_
  refine g_istore_n (pc' := 4) (i := 2) (L' := [(2, vi 0), (1, vi (-1)), (0, vr X 97)]) dX10_inner_3 rfl rfl (by decide) rfl ?_
  refine g_sub [1, 0, 2] rfl ?_
  exact l_X10_inner_4 X M hi F0 hs _ (-1) 0 (INNp.zero _) (by omega) (by omega) rfl
