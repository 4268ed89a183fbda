set_option maxHeartbeats 4000000 in
set_option maxRecDepth 100000 in
theorem j_X10_move_z_143 (X : Cx) (M : Mm) (hi : IM M) (c : Int) (hc : inI c) (hc8 : 0 ≤ c ∧ c ≤ 88) (hcl : CLv (M 107) (M 108) (M 109) (M 97 21) c) (hdn : 0 ≤ M 97 32 ∧ M 97 32 ≤ 1000) (K W : Nat → Int) (i : Nat) (lv : Int) (clm : CLM K W i lv M c) (mm : Nat → Int) (e25 : E25 mm (M 101)) (hd : Int) (to : Int) (th : Int) (M1 : Mm) (ic1 : IM M1) (fr1 : Fr (fun c => c = 97 ∨ c = 101 ∨ c = 104 ∨ c = 105 ∨ c = 112) M M1) (q97_12 : (M1 97 12 = M 97 12)) (q97_19 : (M1 97 19 = M 97 19)) (q97_21 : (M1 97 21 = M 97 21)) (q97_17 : (M1 97 17 = M 97 17)) (q97_33 : (M1 97 33 = M 97 33)) (q97_10 : (M1 97 10 = M 97 10)) (q97_44 : (M1 97 44 = M 97 44)) (d32 : M1 97 32 = M 97 32) (kq1 : M1 104 = M 104) (c1 : M1 101 = M 101) (hok : cOK K W i lv (evE (M 99 0) (M 97 32) mm (fun j => M 99 (4 + j)))) (ghd : hd = M 107 c.toNat ∧ to = M 107 (c + 2).toNat) (hth : (th = 0 ∧ ¬ ((hd = 2 ∧ 0 ≤ to ∧ to < M 99 0) ∨ (hd ≠ 2 ∧ (0 ≤ M 107 (c + 1).toNat ∧ M 107 (c + 1).toNat < M 99 0) ∧ (hd = 1 ∨ (0 ≤ to ∧ to < M 99 0))))) ∨ (th = 1 ∧ ((hd = 2 ∧ 0 ≤ to ∧ to < M 99 0) ∨ (hd ≠ 2 ∧ (0 ≤ M 107 (c + 1).toNat ∧ M 107 (c + 1).toNat < M 99 0) ∧ (hd = 1 ∨ (0 ≤ to ∧ to < M 99 0)))))) (vq : VLQ (evE (M 99 0) (M 97 32) mm (fun j => M 99 (4 + j))) (cF K W i lv) (M1 97 30) (M1 97 31)) : G X 4 RX10 cX10_move 6 (some .int) (Qi (fun r M1 => IM M1 ∧ Fr (fun c => c = 97 ∨ c = 101 ∨ c = 104 ∨ c = 105 ∨ c = 112) M M1 ∧ M1 97 12 = M 97 12 ∧ M1 97 19 = M 97 19 ∧ M1 97 21 = M 97 21 ∧ M1 97 17 = M 97 17 ∧ M1 97 33 = M 97 33 ∧ M1 97 10 = M 97 10 ∧ M1 97 44 = M 97 44 ∧ ((r = 0 ∨ r = -3 ∨ r = -5) ∧ (0 ≤ M1 97 32 ∧ M1 97 32 ≤ M 97 32 + 1) ∧ KQ M M1 ∧ MVQ (M 99 0) (fun j => M 99 (4 + j)) K W i lv mm (M 97 32) r (M1 101) (M1 97 32)))) 143 [(2, vi hd), (3, vi to), (4, vi th), (0, vr X 97), (1, vi c)] [] M1 := by
  have p0 := hi.1.1
  have hcl2 := hcl
  obtain ⟨l0, l1, l2, l7, ⟨l4, l4n⟩, ⟨l6, l6n⟩⟩ := hcl2
  have l4a := l4.1
  have l6a := l6.1
  have clm2 := clm
  obtain ⟨m0, m1, m2, m3, m7, m4, m5, m6, m8⟩ := clm2
  have ch := cHd_v (K := K) (W := W) (i := i)
  have eE : evE (M 99 0) (M 97 32) (M 101) (fun j => M 99 (4 + j)) = evE (M 99 0) (M 97 32) mm (fun j => M 99 (4 + j)) := evE_cg e25
  refine g_aload_n (pc' := 144) 3 dX10_move_143 rfl rfl ?_
  refine g_getI (pc' := 147) dX10_move_144 rfl f_X10_301 rfl rfl (fun v1 ev1 rv1 => ?_)
  refine g_if_ne (pc' := 150) (tgt := 169) rv1 dX10_move_147 rfl rfl (fun c2 => ?_) (fun c2 => ?_)
  · refine g_bipush (pc' := 171) (v := (-3)) dX10_move_169 rfl (by decide) ?_
    refine g_ireturn dX10_move_171 ?_
    exact ⟨ic1, fr1, q97_12, q97_19, q97_21, q97_17, q97_33, q97_10, q97_44, by omega, by omega, (KQ.e (kq1)), MVM.n3 hok (by
        by_cases y : M1 97 30 = 0
        · rw [mvR_v (vq.yes y)]
          by_cases x : 1 ≤ M1 97 31 ∧ M1 97 31 ≤ 60
          · exact mvV_no (by omega)
          · exact mvV_out x
        · exact mvR_n (vq.bad y)) (by rw [c1]; exact e25) (by omega) (by omega)⟩
  · refine g_aload_n (pc' := 151) 3 dX10_move_150 rfl rfl ?_
    refine g_getL (pc' := 154) dX10_move_151 rfl f_X10_316 rfl rfl (fun v3 ev3 rv3 => ?_)
    refine g_lconst (pc' := 155) (v := 1) dX10_move_154 rfl (by decide) ?_
    refine g_ldc2 (pc' := 158) (v := 60) dX10_move_155 rfl k_X10_93 ?_
    refine g_callSip (pc' := 161) (As := [vl v3, vl 1, vl 60]) (S := []) dX10_move_158 rfl m_X10_83 w_X10_in (c_X10_in X M1 v3 rv3 1 (by decide) 60 (by decide)) rfl (by decide) (by decide) rfl (Nat.le_of_ble_eq_true rfl) (fun z5 q4 => ?_)
    refine g_if_eq (pc' := 164) (tgt := 169) ⟨by omega, by omega⟩ dX10_move_161 rfl rfl (fun c6 => ?_) (fun c6 => ?_)
    · replace q4 := q4.resolve_left (fun h => absurd (c6.symm.trans h.1) (by decide))
      refine g_bipush (pc' := 171) (v := (-3)) dX10_move_169 rfl (by decide) ?_
      refine g_ireturn dX10_move_171 ?_
      exact ⟨ic1, fr1, q97_12, q97_19, q97_21, q97_17, q97_33, q97_10, q97_44, by omega, by omega, (KQ.e (kq1)), MVM.n3 hok (by
          by_cases y : M1 97 30 = 0
          · rw [mvR_v (vq.yes y)]
            by_cases x : 1 ≤ M1 97 31 ∧ M1 97 31 ≤ 60
            · exact mvV_no (by omega)
            · exact mvV_out x
          · exact mvR_n (vq.bad y)) (by rw [c1]; exact e25) (by omega) (by omega)⟩
    · replace q4 := q4.resolve_right (fun h => c6 h.1)
      refine g_iload (pc' := 166) 2 dX10_move_164 rfl rfl ?_
      refine g_if_ne (pc' := 169) (tgt := 172) ⟨by omega, by omega⟩ dX10_move_166 rfl rfl (fun c7 => ?_) (fun c7 => ?_)
      · refine g_iload_n (pc' := 173) 0 dX10_move_172 rfl rfl ?_
        refine g_iconst (pc' := 174) dX10_move_173 rfl ?_
        refine g_ic_ne (pc' := 177) (tgt := 198) ⟨by omega, by omega⟩ (by decide) dX10_move_174 rfl rfl (fun c8 => ?_) (fun c8 => ?_)
        · refine g_aload_n (pc' := 199) 3 dX10_move_198 rfl rfl ?_
          refine g_aload_n (pc' := 200) 3 dX10_move_199 rfl rfl ?_
          refine g_getR (pc' := 203) dX10_move_200 rfl f_X10_43 rfl rfl ?_
          refine g_iload_n (pc' := 204) 4 dX10_move_203 rfl rfl ?_
          refine g_iconst (pc' := 205) dX10_move_204 rfl ?_
          refine g_iadd (pc' := 206) dX10_move_205 rfl ?_
          refine g_iald (pc' := 207) dX10_move_206 rfl rfl (by omega) (by omega) (fun v9 ev9 rv9 => ?_)
          have gv9 : v9 = M 107 (c + 1).toNat := by rw [ev9, fr1 107 (by decide)]
          refine g_iload_n (pc' := 208) 0 dX10_move_207 rfl rfl ?_
          refine g_iconst (pc' := 209) dX10_move_208 rfl ?_
          refine g_ic_ne (pc' := 212) (tgt := 216) ⟨by omega, by omega⟩ (by decide) dX10_move_209 rfl rfl (fun c10 => ?_) (fun c10 => ?_)
          · refine g_iload_n (pc' := 217) 1 dX10_move_216 rfl rfl ?_
            refine g_aload_n (pc' := 218) 3 dX10_move_217 rfl rfl ?_
            refine g_getL (pc' := 221) dX10_move_218 rfl f_X10_316 rfl rfl (fun v11 ev11 rv11 => ?_)
            obtain rfl : v3 = v11 := ev3.trans ev11.symm
            refine g_l2i (pc' := 222) dX10_move_221 rfl ?_
            refine g_callVi (pc' := 225) (As := [vi v9, vi to, vi v3]) (b := 97) (S := []) dX10_move_222 rfl m_X10_139 w_X10_spooned (c_X10_spooned_x X M1 ic1 v9 rv9 to ⟨by omega, by omega⟩ v3 ⟨by omega, by omega⟩ (by omega) (by omega) (by omega)) rfl ⟨_, _, _, rfl, rfl, rfl⟩ (by decide) (by decide) rfl (Nat.le_of_ble_eq_true rfl) (fun z13 M14 q12 => ?_)
            obtain ⟨iM14, fM140, pM14⟩ := q12
            have fM14 : Fr (fun c => c = 97 ∨ c = 101 ∨ c = 104 ∨ c = 105 ∨ c = 112) M M14 := Fr.tr fr1 fM140 fi_49
            have q97_12_M14 : (M14 97 12 = M 97 12) := (congrFun (fM140 97 (by first | decide | omega | (dsimp only; omega))) 12).trans q97_12
            have q97_19_M14 : (M14 97 19 = M 97 19) := (congrFun (fM140 97 (by first | decide | omega | (dsimp only; omega))) 19).trans q97_19
            have q97_21_M14 : (M14 97 21 = M 97 21) := (congrFun (fM140 97 (by first | decide | omega | (dsimp only; omega))) 21).trans q97_21
            have q97_17_M14 : (M14 97 17 = M 97 17) := (congrFun (fM140 97 (by first | decide | omega | (dsimp only; omega))) 17).trans q97_17
            have q97_33_M14 : (M14 97 33 = M 97 33) := (congrFun (fM140 97 (by first | decide | omega | (dsimp only; omega))) 33).trans q97_33
            have q97_10_M14 : (M14 97 10 = M 97 10) := (congrFun (fM140 97 (by first | decide | omega | (dsimp only; omega))) 10).trans q97_10
            have q97_44_M14 : (M14 97 44 = M 97 44) := (congrFun (fM140 97 (by first | decide | omega | (dsimp only; omega))) 44).trans q97_44
            have wM14_97_30 : M14 97 30 = M1 97 30 := (congrFun (fM140 97 (by first | decide | omega | (dsimp only; omega))) 30)
            have wM14_97_31 : M14 97 31 = M1 97 31 := (congrFun (fM140 97 (by first | decide | omega | (dsimp only; omega))) 31)
            have wM14_97_32 : M14 97 32 = M1 97 32 := (congrFun (fM140 97 (by first | decide | omega | (dsimp only; omega))) 32)
            have kqM14 : KQ M M14 := KQ.tr (KQ.e kq1) pM14.2
            have prM14 := pM14.1
            rw [fr1 99 (by decide), c1] at prM14
            have ek : to = mvK K W i lv := by
              unfold mvK
              first | rw [if_pos (by omega)] | (rw [if_neg (by omega)]; omega)
            have mvM14 := MVM.sp (n := M 99 0) (K := K) (W := W) (i := i) (lv := lv) (by omega) (by omega) (by omega) (by omega) ek (by omega) (by omega) prM14 e25.symm (PIw.cg hi.2.1 (fun j hj => (e25 j hj).symm))
            have mrM14 := prM14.r
            refine g_istore (pc' := 227) (L' := [(5, vi z13), (2, vi hd), (3, vi to), (4, vi th), (0, vr X 97), (1, vi c)]) dX10_move_225 rfl (by decide) rfl ?_
            refine g_aload_n (pc' := 228) 4 dX10_move_227 rfl rfl ?_
            refine g_dup (pc' := 229) dX10_move_228 rfl rfl ?_
            refine g_getI (pc' := 232) dX10_move_229 rfl f_X10_298 rfl rfl (fun v15 ev15 rv15 => ?_)
            refine g_iload (pc' := 234) 0 dX10_move_232 rfl rfl ?_
            refine g_if_ge (pc' := 237) (tgt := 241) ⟨by omega, by omega⟩ dX10_move_234 rfl rfl (fun c16 => ?_) (fun c16 => ?_)
            · refine g_iconst (pc' := 242) dX10_move_241 rfl ?_
              refine g_iadd (pc' := 243) dX10_move_242 rfl ?_
              refine g_putI (pc' := 246) dX10_move_243 rfl p_X10_298 rfl rfl ⟨by omega, by omega⟩ (fun M17 hM17 => ?_)
              have iM17 : IM M17 := IM.wr iM14 hM17 (by unfold okv; first | decide | omega)
              have fM17 : Fr (fun c => c = 97 ∨ c = 101 ∨ c = 104 ∨ c = 105 ∨ c = 112) M M17 := Fr.wr fM14 hM17 (by first | decide | omega | (dsimp only; omega))
              have q97_12_M17 : (M17 97 12 = M 97 12) := (show M17 97 12 = M14 97 12 by rw [hM17]; exact mu_ne _ _ (by first | decide | omega)).trans q97_12_M14
              have q97_19_M17 : (M17 97 19 = M 97 19) := (show M17 97 19 = M14 97 19 by rw [hM17]; exact mu_ne _ _ (by first | decide | omega)).trans q97_19_M14
              have q97_21_M17 : (M17 97 21 = M 97 21) := (show M17 97 21 = M14 97 21 by rw [hM17]; exact mu_ne _ _ (by first | decide | omega)).trans q97_21_M14
              have q97_17_M17 : (M17 97 17 = M 97 17) := (show M17 97 17 = M14 97 17 by rw [hM17]; exact mu_ne _ _ (by first | decide | omega)).trans q97_17_M14
              have q97_33_M17 : (M17 97 33 = M 97 33) := (show M17 97 33 = M14 97 33 by rw [hM17]; exact mu_ne _ _ (by first | decide | omega)).trans q97_33_M14
              have q97_10_M17 : (M17 97 10 = M 97 10) := (show M17 97 10 = M14 97 10 by rw [hM17]; exact mu_ne _ _ (by first | decide | omega)).trans q97_10_M14
              have q97_44_M17 : (M17 97 44 = M 97 44) := (show M17 97 44 = M14 97 44 by rw [hM17]; exact mu_ne _ _ (by first | decide | omega)).trans q97_44_M14
              have wM17_97_30 : M17 97 30 = M14 97 30 := by rw [hM17]; exact mu_ne _ _ (by first | decide | omega)
              have wM17_97_31 : M17 97 31 = M14 97 31 := by rw [hM17]; exact mu_ne _ _ (by first | decide | omega)
              have xM17_97_32 : M17 97 32 = v15 + 1 := by rw [hM17]; exact mu_at _ _ _ _
              have kqM17 : KQ M M17 := KQ.tr kqM14 (KQ.e (by rw [hM17, mu_cell _ _ (by decide)]))
              have c1M17 : M17 101 = M14 101 := by rw [hM17]; exact mu_cell _ _ (by decide)
              refine g_iload (pc' := 248) 0 dX10_move_246 rfl rfl ?_
              refine g_ireturn dX10_move_248 ?_
              exact ⟨iM17, fM17, q97_12_M17, q97_19_M17, q97_21_M17, q97_17_M17, q97_33_M17, q97_10_M17, q97_44_M17, by omega, by omega, kqM17, MVM.y hok (vq.yes (by omega)) (by rw [c1M17, show M1 97 31 = v3 by omega]; exact mvM14) (by omega) (by omega)⟩
            · refine g_iconst (pc' := 238) dX10_move_237 rfl ?_
              refine g_goto (tgt := 242) dX10_move_238 rfl ?_
              refine g_iadd (pc' := 243) dX10_move_242 rfl ?_
              refine g_putI (pc' := 246) dX10_move_243 rfl p_X10_298 rfl rfl ⟨by omega, by omega⟩ (fun M18 hM18 => ?_)
              have iM18 : IM M18 := IM.wr iM14 hM18 (by unfold okv; first | decide | omega)
              have fM18 : Fr (fun c => c = 97 ∨ c = 101 ∨ c = 104 ∨ c = 105 ∨ c = 112) M M18 := Fr.wr fM14 hM18 (by first | decide | omega | (dsimp only; omega))
              have q97_12_M18 : (M18 97 12 = M 97 12) := (show M18 97 12 = M14 97 12 by rw [hM18]; exact mu_ne _ _ (by first | decide | omega)).trans q97_12_M14
              have q97_19_M18 : (M18 97 19 = M 97 19) := (show M18 97 19 = M14 97 19 by rw [hM18]; exact mu_ne _ _ (by first | decide | omega)).trans q97_19_M14
              have q97_21_M18 : (M18 97 21 = M 97 21) := (show M18 97 21 = M14 97 21 by rw [hM18]; exact mu_ne _ _ (by first | decide | omega)).trans q97_21_M14
              have q97_17_M18 : (M18 97 17 = M 97 17) := (show M18 97 17 = M14 97 17 by rw [hM18]; exact mu_ne _ _ (by first | decide | omega)).trans q97_17_M14
              have q97_33_M18 : (M18 97 33 = M 97 33) := (show M18 97 33 = M14 97 33 by rw [hM18]; exact mu_ne _ _ (by first | decide | omega)).trans q97_33_M14
              have q97_10_M18 : (M18 97 10 = M 97 10) := (show M18 97 10 = M14 97 10 by rw [hM18]; exact mu_ne _ _ (by first | decide | omega)).trans q97_10_M14
              have q97_44_M18 : (M18 97 44 = M 97 44) := (show M18 97 44 = M14 97 44 by rw [hM18]; exact mu_ne _ _ (by first | decide | omega)).trans q97_44_M14
              have wM18_97_30 : M18 97 30 = M14 97 30 := by rw [hM18]; exact mu_ne _ _ (by first | decide | omega)
              have wM18_97_31 : M18 97 31 = M14 97 31 := by rw [hM18]; exact mu_ne _ _ (by first | decide | omega)
              have xM18_97_32 : M18 97 32 = v15 + 0 := by rw [hM18]; exact mu_at _ _ _ _
              have kqM18 : KQ M M18 := KQ.tr kqM14 (KQ.e (by rw [hM18, mu_cell _ _ (by decide)]))
              have c1M18 : M18 101 = M14 101 := by rw [hM18]; exact mu_cell _ _ (by decide)
              refine g_iload (pc' := 248) 0 dX10_move_246 rfl rfl ?_
              refine g_ireturn dX10_move_248 ?_
              exact ⟨iM18, fM18, q97_12_M18, q97_19_M18, q97_21_M18, q97_17_M18, q97_33_M18, q97_10_M18, q97_44_M18, by omega, by omega, kqM18, MVM.y hok (vq.yes (by omega)) (by rw [c1M18, show M1 97 31 = v3 by omega]; exact mvM14) (by omega) (by omega)⟩
          · refine g_iconst (pc' := 213) dX10_move_212 rfl ?_
            refine g_goto (tgt := 217) dX10_move_213 rfl ?_
            refine g_aload_n (pc' := 218) 3 dX10_move_217 rfl rfl ?_
            refine g_getL (pc' := 221) dX10_move_218 rfl f_X10_316 rfl rfl (fun v19 ev19 rv19 => ?_)
            obtain rfl : v3 = v19 := ev3.trans ev19.symm
            refine g_l2i (pc' := 222) dX10_move_221 rfl ?_
            refine g_callVi (pc' := 225) (As := [vi v9, vi (-1), vi v3]) (b := 97) (S := []) dX10_move_222 rfl m_X10_139 w_X10_spooned (c_X10_spooned_x X M1 ic1 v9 rv9 (-1) (by decide) v3 ⟨by omega, by omega⟩ (by omega) (by omega) (by omega)) rfl ⟨_, _, _, rfl, rfl, rfl⟩ (by decide) (by decide) rfl (Nat.le_of_ble_eq_true rfl) (fun z21 M22 q20 => ?_)
            obtain ⟨iM22, fM220, pM22⟩ := q20
            have fM22 : Fr (fun c => c = 97 ∨ c = 101 ∨ c = 104 ∨ c = 105 ∨ c = 112) M M22 := Fr.tr fr1 fM220 fi_49
            have q97_12_M22 : (M22 97 12 = M 97 12) := (congrFun (fM220 97 (by first | decide | omega | (dsimp only; omega))) 12).trans q97_12
            have q97_19_M22 : (M22 97 19 = M 97 19) := (congrFun (fM220 97 (by first | decide | omega | (dsimp only; omega))) 19).trans q97_19
            have q97_21_M22 : (M22 97 21 = M 97 21) := (congrFun (fM220 97 (by first | decide | omega | (dsimp only; omega))) 21).trans q97_21
            have q97_17_M22 : (M22 97 17 = M 97 17) := (congrFun (fM220 97 (by first | decide | omega | (dsimp only; omega))) 17).trans q97_17
            have q97_33_M22 : (M22 97 33 = M 97 33) := (congrFun (fM220 97 (by first | decide | omega | (dsimp only; omega))) 33).trans q97_33
            have q97_10_M22 : (M22 97 10 = M 97 10) := (congrFun (fM220 97 (by first | decide | omega | (dsimp only; omega))) 10).trans q97_10
            have q97_44_M22 : (M22 97 44 = M 97 44) := (congrFun (fM220 97 (by first | decide | omega | (dsimp only; omega))) 44).trans q97_44
            have wM22_97_30 : M22 97 30 = M1 97 30 := (congrFun (fM220 97 (by first | decide | omega | (dsimp only; omega))) 30)
            have wM22_97_31 : M22 97 31 = M1 97 31 := (congrFun (fM220 97 (by first | decide | omega | (dsimp only; omega))) 31)
            have wM22_97_32 : M22 97 32 = M1 97 32 := (congrFun (fM220 97 (by first | decide | omega | (dsimp only; omega))) 32)
            have kqM22 : KQ M M22 := KQ.tr (KQ.e kq1) pM22.2
            have prM22 := pM22.1
            rw [fr1 99 (by decide), c1] at prM22
            have ek : (-1) = mvK K W i lv := by
              unfold mvK
              first | rw [if_pos (by omega)] | (rw [if_neg (by omega)]; omega)
            have mvM22 := MVM.sp (n := M 99 0) (K := K) (W := W) (i := i) (lv := lv) (by omega) (by omega) (by omega) (by omega) ek (by omega) (by omega) prM22 e25.symm (PIw.cg hi.2.1 (fun j hj => (e25 j hj).symm))
            have mrM22 := prM22.r
            refine g_istore (pc' := 227) (L' := [(5, vi z21), (2, vi hd), (3, vi to), (4, vi th), (0, vr X 97), (1, vi c)]) dX10_move_225 rfl (by decide) rfl ?_
            refine g_aload_n (pc' := 228) 4 dX10_move_227 rfl rfl ?_
            refine g_dup (pc' := 229) dX10_move_228 rfl rfl ?_
            refine g_getI (pc' := 232) dX10_move_229 rfl f_X10_298 rfl rfl (fun v23 ev23 rv23 => ?_)
            refine g_iload (pc' := 234) 0 dX10_move_232 rfl rfl ?_
            refine g_if_ge (pc' := 237) (tgt := 241) ⟨by omega, by omega⟩ dX10_move_234 rfl rfl (fun c24 => ?_) (fun c24 => ?_)
            · refine g_iconst (pc' := 242) dX10_move_241 rfl ?_
              refine g_iadd (pc' := 243) dX10_move_242 rfl ?_
              refine g_putI (pc' := 246) dX10_move_243 rfl p_X10_298 rfl rfl ⟨by omega, by omega⟩ (fun M25 hM25 => ?_)
              have iM25 : IM M25 := IM.wr iM22 hM25 (by unfold okv; first | decide | omega)
              have fM25 : Fr (fun c => c = 97 ∨ c = 101 ∨ c = 104 ∨ c = 105 ∨ c = 112) M M25 := Fr.wr fM22 hM25 (by first | decide | omega | (dsimp only; omega))
              have q97_12_M25 : (M25 97 12 = M 97 12) := (show M25 97 12 = M22 97 12 by rw [hM25]; exact mu_ne _ _ (by first | decide | omega)).trans q97_12_M22
              have q97_19_M25 : (M25 97 19 = M 97 19) := (show M25 97 19 = M22 97 19 by rw [hM25]; exact mu_ne _ _ (by first | decide | omega)).trans q97_19_M22
              have q97_21_M25 : (M25 97 21 = M 97 21) := (show M25 97 21 = M22 97 21 by rw [hM25]; exact mu_ne _ _ (by first | decide | omega)).trans q97_21_M22
              have q97_17_M25 : (M25 97 17 = M 97 17) := (show M25 97 17 = M22 97 17 by rw [hM25]; exact mu_ne _ _ (by first | decide | omega)).trans q97_17_M22
              have q97_33_M25 : (M25 97 33 = M 97 33) := (show M25 97 33 = M22 97 33 by rw [hM25]; exact mu_ne _ _ (by first | decide | omega)).trans q97_33_M22
              have q97_10_M25 : (M25 97 10 = M 97 10) := (show M25 97 10 = M22 97 10 by rw [hM25]; exact mu_ne _ _ (by first | decide | omega)).trans q97_10_M22
              have q97_44_M25 : (M25 97 44 = M 97 44) := (show M25 97 44 = M22 97 44 by rw [hM25]; exact mu_ne _ _ (by first | decide | omega)).trans q97_44_M22
              have wM25_97_30 : M25 97 30 = M22 97 30 := by rw [hM25]; exact mu_ne _ _ (by first | decide | omega)
              have wM25_97_31 : M25 97 31 = M22 97 31 := by rw [hM25]; exact mu_ne _ _ (by first | decide | omega)
              have xM25_97_32 : M25 97 32 = v23 + 1 := by rw [hM25]; exact mu_at _ _ _ _
              have kqM25 : KQ M M25 := KQ.tr kqM22 (KQ.e (by rw [hM25, mu_cell _ _ (by decide)]))
              have c1M25 : M25 101 = M22 101 := by rw [hM25]; exact mu_cell _ _ (by decide)
              refine g_iload (pc' := 248) 0 dX10_move_246 rfl rfl ?_
              refine g_ireturn dX10_move_248 ?_
              exact ⟨iM25, fM25, q97_12_M25, q97_19_M25, q97_21_M25, q97_17_M25, q97_33_M25, q97_10_M25, q97_44_M25, by omega, by omega, kqM25, MVM.y hok (vq.yes (by omega)) (by rw [c1M25, show M1 97 31 = v3 by omega]; exact mvM22) (by omega) (by omega)⟩
            · refine g_iconst (pc' := 238) dX10_move_237 rfl ?_
              refine g_goto (tgt := 242) dX10_move_238 rfl ?_
              refine g_iadd (pc' := 243) dX10_move_242 rfl ?_
              refine g_putI (pc' := 246) dX10_move_243 rfl p_X10_298 rfl rfl ⟨by omega, by omega⟩ (fun M26 hM26 => ?_)
              have iM26 : IM M26 := IM.wr iM22 hM26 (by unfold okv; first | decide | omega)
              have fM26 : Fr (fun c => c = 97 ∨ c = 101 ∨ c = 104 ∨ c = 105 ∨ c = 112) M M26 := Fr.wr fM22 hM26 (by first | decide | omega | (dsimp only; omega))
              have q97_12_M26 : (M26 97 12 = M 97 12) := (show M26 97 12 = M22 97 12 by rw [hM26]; exact mu_ne _ _ (by first | decide | omega)).trans q97_12_M22
              have q97_19_M26 : (M26 97 19 = M 97 19) := (show M26 97 19 = M22 97 19 by rw [hM26]; exact mu_ne _ _ (by first | decide | omega)).trans q97_19_M22
              have q97_21_M26 : (M26 97 21 = M 97 21) := (show M26 97 21 = M22 97 21 by rw [hM26]; exact mu_ne _ _ (by first | decide | omega)).trans q97_21_M22
              have q97_17_M26 : (M26 97 17 = M 97 17) := (show M26 97 17 = M22 97 17 by rw [hM26]; exact mu_ne _ _ (by first | decide | omega)).trans q97_17_M22
              have q97_33_M26 : (M26 97 33 = M 97 33) := (show M26 97 33 = M22 97 33 by rw [hM26]; exact mu_ne _ _ (by first | decide | omega)).trans q97_33_M22
              have q97_10_M26 : (M26 97 10 = M 97 10) := (show M26 97 10 = M22 97 10 by rw [hM26]; exact mu_ne _ _ (by first | decide | omega)).trans q97_10_M22
              have q97_44_M26 : (M26 97 44 = M 97 44) := (show M26 97 44 = M22 97 44 by rw [hM26]; exact mu_ne _ _ (by first | decide | omega)).trans q97_44_M22
              have wM26_97_30 : M26 97 30 = M22 97 30 := by rw [hM26]; exact mu_ne _ _ (by first | decide | omega)
              have wM26_97_31 : M26 97 31 = M22 97 31 := by rw [hM26]; exact mu_ne _ _ (by first | decide | omega)
              have xM26_97_32 : M26 97 32 = v23 + 0 := by rw [hM26]; exact mu_at _ _ _ _
              have kqM26 : KQ M M26 := KQ.tr kqM22 (KQ.e (by rw [hM26, mu_cell _ _ (by decide)]))
              have c1M26 : M26 101 = M22 101 := by rw [hM26]; exact mu_cell _ _ (by decide)
              refine g_iload (pc' := 248) 0 dX10_move_246 rfl rfl ?_
              refine g_ireturn dX10_move_248 ?_
              exact ⟨iM26, fM26, q97_12_M26, q97_19_M26, q97_21_M26, q97_17_M26, q97_33_M26, q97_10_M26, q97_44_M26, by omega, by omega, kqM26, MVM.y hok (vq.yes (by omega)) (by rw [c1M26, show M1 97 31 = v3 by omega]; exact mvM22) (by omega) (by omega)⟩
        · refine g_aload_n (pc' := 178) 3 dX10_move_177 rfl rfl ?_
          refine g_iload_n (pc' := 179) 1 dX10_move_178 rfl rfl ?_
          refine g_aload_n (pc' := 180) 3 dX10_move_179 rfl rfl ?_
          refine g_getR (pc' := 183) dX10_move_180 rfl f_X10_43 rfl rfl ?_
          refine g_iload_n (pc' := 184) 4 dX10_move_183 rfl rfl ?_
          refine g_iconst (pc' := 185) dX10_move_184 rfl ?_
          refine g_iadd (pc' := 186) dX10_move_185 rfl ?_
          refine g_iald (pc' := 187) dX10_move_186 rfl rfl (by omega) (by omega) (fun v27 ev27 rv27 => ?_)
          have gv27 : v27 = M 107 (c + 1).toNat := by rw [ev27, fr1 107 (by decide)]
          refine g_aload_n (pc' := 188) 3 dX10_move_187 rfl rfl ?_
          refine g_getL (pc' := 191) dX10_move_188 rfl f_X10_316 rfl rfl (fun v28 ev28 rv28 => ?_)
          obtain rfl : v3 = v28 := ev3.trans ev28.symm
          refine g_l2i (pc' := 192) dX10_move_191 rfl ?_
          refine g_callVi (pc' := 195) (As := [vi to, vi v27, vi v3]) (b := 97) (S := []) dX10_move_192 rfl m_X10_135 w_X10_filled (c_X10_filled_x X M1 ic1 to ⟨by omega, by omega⟩ v27 rv27 v3 ⟨by omega, by omega⟩ (by omega) (by omega) (by omega)) rfl ⟨_, _, _, rfl, rfl, rfl⟩ (by decide) (by decide) rfl (Nat.le_of_ble_eq_true rfl) (fun z30 M31 q29 => ?_)
          obtain ⟨iM31, fM310, pM31⟩ := q29
          have fM31 : Fr (fun c => c = 97 ∨ c = 101 ∨ c = 104 ∨ c = 105 ∨ c = 112) M M31 := Fr.tr fr1 fM310 fi_50
          have q97_12_M31 : (M31 97 12 = M 97 12) := (congrFun (fM310 97 (by first | decide | omega | (dsimp only; omega))) 12).trans q97_12
          have q97_19_M31 : (M31 97 19 = M 97 19) := (congrFun (fM310 97 (by first | decide | omega | (dsimp only; omega))) 19).trans q97_19
          have q97_21_M31 : (M31 97 21 = M 97 21) := (congrFun (fM310 97 (by first | decide | omega | (dsimp only; omega))) 21).trans q97_21
          have q97_17_M31 : (M31 97 17 = M 97 17) := (congrFun (fM310 97 (by first | decide | omega | (dsimp only; omega))) 17).trans q97_17
          have q97_33_M31 : (M31 97 33 = M 97 33) := (congrFun (fM310 97 (by first | decide | omega | (dsimp only; omega))) 33).trans q97_33
          have q97_10_M31 : (M31 97 10 = M 97 10) := (congrFun (fM310 97 (by first | decide | omega | (dsimp only; omega))) 10).trans q97_10
          have q97_44_M31 : (M31 97 44 = M 97 44) := (congrFun (fM310 97 (by first | decide | omega | (dsimp only; omega))) 44).trans q97_44
          have wM31_97_30 : M31 97 30 = M1 97 30 := (congrFun (fM310 97 (by first | decide | omega | (dsimp only; omega))) 30)
          have wM31_97_31 : M31 97 31 = M1 97 31 := (congrFun (fM310 97 (by first | decide | omega | (dsimp only; omega))) 31)
          have wM31_97_32 : M31 97 32 = M1 97 32 := (congrFun (fM310 97 (by first | decide | omega | (dsimp only; omega))) 32)
          have kqM31 : KQ M M31 := KQ.e ((fM310 104 (by decide)).trans kq1)
          rw [fr1 99 (by decide), c1] at pM31
          have mvM31 := MVM.fi (n := M 99 0) (K := K) (W := W) (i := i) (lv := lv) (by omega) (by omega) (by omega) (by omega) (by omega) (by omega) pM31 e25.symm
          have mrM31 := pM31.r
          refine g_goto (tgt := 225) dX10_move_195 rfl ?_
          refine g_istore (pc' := 227) (L' := [(5, vi z30), (2, vi hd), (3, vi to), (4, vi th), (0, vr X 97), (1, vi c)]) dX10_move_225 rfl (by decide) rfl ?_
          refine g_aload_n (pc' := 228) 4 dX10_move_227 rfl rfl ?_
          refine g_dup (pc' := 229) dX10_move_228 rfl rfl ?_
          refine g_getI (pc' := 232) dX10_move_229 rfl f_X10_298 rfl rfl (fun v32 ev32 rv32 => ?_)
          refine g_iload (pc' := 234) 0 dX10_move_232 rfl rfl ?_
          refine g_if_ge (pc' := 237) (tgt := 241) ⟨by omega, by omega⟩ dX10_move_234 rfl rfl (fun c33 => ?_) (fun c33 => ?_)
          · refine g_iconst (pc' := 242) dX10_move_241 rfl ?_
            refine g_iadd (pc' := 243) dX10_move_242 rfl ?_
            refine g_putI (pc' := 246) dX10_move_243 rfl p_X10_298 rfl rfl ⟨by omega, by omega⟩ (fun M34 hM34 => ?_)
            have iM34 : IM M34 := IM.wr iM31 hM34 (by unfold okv; first | decide | omega)
            have fM34 : Fr (fun c => c = 97 ∨ c = 101 ∨ c = 104 ∨ c = 105 ∨ c = 112) M M34 := Fr.wr fM31 hM34 (by first | decide | omega | (dsimp only; omega))
            have q97_12_M34 : (M34 97 12 = M 97 12) := (show M34 97 12 = M31 97 12 by rw [hM34]; exact mu_ne _ _ (by first | decide | omega)).trans q97_12_M31
            have q97_19_M34 : (M34 97 19 = M 97 19) := (show M34 97 19 = M31 97 19 by rw [hM34]; exact mu_ne _ _ (by first | decide | omega)).trans q97_19_M31
            have q97_21_M34 : (M34 97 21 = M 97 21) := (show M34 97 21 = M31 97 21 by rw [hM34]; exact mu_ne _ _ (by first | decide | omega)).trans q97_21_M31
            have q97_17_M34 : (M34 97 17 = M 97 17) := (show M34 97 17 = M31 97 17 by rw [hM34]; exact mu_ne _ _ (by first | decide | omega)).trans q97_17_M31
            have q97_33_M34 : (M34 97 33 = M 97 33) := (show M34 97 33 = M31 97 33 by rw [hM34]; exact mu_ne _ _ (by first | decide | omega)).trans q97_33_M31
            have q97_10_M34 : (M34 97 10 = M 97 10) := (show M34 97 10 = M31 97 10 by rw [hM34]; exact mu_ne _ _ (by first | decide | omega)).trans q97_10_M31
            have q97_44_M34 : (M34 97 44 = M 97 44) := (show M34 97 44 = M31 97 44 by rw [hM34]; exact mu_ne _ _ (by first | decide | omega)).trans q97_44_M31
            have wM34_97_30 : M34 97 30 = M31 97 30 := by rw [hM34]; exact mu_ne _ _ (by first | decide | omega)
            have wM34_97_31 : M34 97 31 = M31 97 31 := by rw [hM34]; exact mu_ne _ _ (by first | decide | omega)
            have xM34_97_32 : M34 97 32 = v32 + 1 := by rw [hM34]; exact mu_at _ _ _ _
            have kqM34 : KQ M M34 := KQ.tr kqM31 (KQ.e (by rw [hM34, mu_cell _ _ (by decide)]))
            have c1M34 : M34 101 = M31 101 := by rw [hM34]; exact mu_cell _ _ (by decide)
            refine g_iload (pc' := 248) 0 dX10_move_246 rfl rfl ?_
            refine g_ireturn dX10_move_248 ?_
            exact ⟨iM34, fM34, q97_12_M34, q97_19_M34, q97_21_M34, q97_17_M34, q97_33_M34, q97_10_M34, q97_44_M34, by omega, by omega, kqM34, MVM.y hok (vq.yes (by omega)) (by rw [c1M34, show M1 97 31 = v3 by omega]; exact mvM31) (by omega) (by omega)⟩
          · refine g_iconst (pc' := 238) dX10_move_237 rfl ?_
            refine g_goto (tgt := 242) dX10_move_238 rfl ?_
            refine g_iadd (pc' := 243) dX10_move_242 rfl ?_
            refine g_putI (pc' := 246) dX10_move_243 rfl p_X10_298 rfl rfl ⟨by omega, by omega⟩ (fun M35 hM35 => ?_)
            have iM35 : IM M35 := IM.wr iM31 hM35 (by unfold okv; first | decide | omega)
            have fM35 : Fr (fun c => c = 97 ∨ c = 101 ∨ c = 104 ∨ c = 105 ∨ c = 112) M M35 := Fr.wr fM31 hM35 (by first | decide | omega | (dsimp only; omega))
            have q97_12_M35 : (M35 97 12 = M 97 12) := (show M35 97 12 = M31 97 12 by rw [hM35]; exact mu_ne _ _ (by first | decide | omega)).trans q97_12_M31
            have q97_19_M35 : (M35 97 19 = M 97 19) := (show M35 97 19 = M31 97 19 by rw [hM35]; exact mu_ne _ _ (by first | decide | omega)).trans q97_19_M31
            have q97_21_M35 : (M35 97 21 = M 97 21) := (show M35 97 21 = M31 97 21 by rw [hM35]; exact mu_ne _ _ (by first | decide | omega)).trans q97_21_M31
            have q97_17_M35 : (M35 97 17 = M 97 17) := (show M35 97 17 = M31 97 17 by rw [hM35]; exact mu_ne _ _ (by first | decide | omega)).trans q97_17_M31
            have q97_33_M35 : (M35 97 33 = M 97 33) := (show M35 97 33 = M31 97 33 by rw [hM35]; exact mu_ne _ _ (by first | decide | omega)).trans q97_33_M31
            have q97_10_M35 : (M35 97 10 = M 97 10) := (show M35 97 10 = M31 97 10 by rw [hM35]; exact mu_ne _ _ (by first | decide | omega)).trans q97_10_M31
            have q97_44_M35 : (M35 97 44 = M 97 44) := (show M35 97 44 = M31 97 44 by rw [hM35]; exact mu_ne _ _ (by first | decide | omega)).trans q97_44_M31
            have wM35_97_30 : M35 97 30 = M31 97 30 := by rw [hM35]; exact mu_ne _ _ (by first | decide | omega)
            have wM35_97_31 : M35 97 31 = M31 97 31 := by rw [hM35]; exact mu_ne _ _ (by first | decide | omega)
            have xM35_97_32 : M35 97 32 = v32 + 0 := by rw [hM35]; exact mu_at _ _ _ _
            have kqM35 : KQ M M35 := KQ.tr kqM31 (KQ.e (by rw [hM35, mu_cell _ _ (by decide)]))
            have c1M35 : M35 101 = M31 101 := by rw [hM35]; exact mu_cell _ _ (by decide)
            refine g_iload (pc' := 248) 0 dX10_move_246 rfl rfl ?_
            refine g_ireturn dX10_move_248 ?_
            exact ⟨iM35, fM35, q97_12_M35, q97_19_M35, q97_21_M35, q97_17_M35, q97_33_M35, q97_10_M35, q97_44_M35, by omega, by omega, kqM35, MVM.y hok (vq.yes (by omega)) (by rw [c1M35, show M1 97 31 = v3 by omega]; exact mvM31) (by omega) (by omega)⟩
      · refine g_bipush (pc' := 171) (v := (-3)) dX10_move_169 rfl (by decide) ?_
        refine g_ireturn dX10_move_171 ?_
        exact ⟨ic1, fr1, q97_12, q97_19, q97_21, q97_17, q97_33, q97_10, q97_44, by omega, by omega, (KQ.e (kq1)), MVM.n3 hok (by
            by_cases y : M1 97 30 = 0
            · rw [mvR_v (vq.yes y)]
              by_cases x : 1 ≤ M1 97 31 ∧ M1 97 31 ≤ 60
              · exact mvV_no (by omega)
              · exact mvV_out x
            · exact mvR_n (vq.bad y)) (by rw [c1]; exact e25) (by omega) (by omega)⟩
set_option maxHeartbeats 4000000 in
set_option maxRecDepth 100000 in
theorem j_X10_move_z_59 (X : Cx) (M : Mm) (hi : IM M) (c : Int) (hc : inI c) (hc8 : 0 ≤ c ∧ c ≤ 88) (hcl : CLv (M 107) (M 108) (M 109) (M 97 21) c) (hdn : 0 ≤ M 97 32 ∧ M 97 32 ≤ 1000) (K W : Nat → Int) (i : Nat) (lv : Int) (clm : CLM K W i lv M c) (mm : Nat → Int) (e25 : E25 mm (M 101))  (M1 : Mm) (ic1 : IM M1) (fr1 : Fr (fun c => c = 97 ∨ c = 101 ∨ c = 104 ∨ c = 105 ∨ c = 112) M M1) (q97_12 : (M1 97 12 = M 97 12)) (q97_19 : (M1 97 19 = M 97 19)) (q97_21 : (M1 97 21 = M 97 21)) (q97_17 : (M1 97 17 = M 97 17)) (q97_33 : (M1 97 33 = M 97 33)) (q97_10 : (M1 97 10 = M 97 10)) (q97_44 : (M1 97 44 = M 97 44)) (d32 : M1 97 32 = M 97 32) (kq1 : M1 104 = M 104) (c1 : M1 101 = M 101) (hok : cOK K W i lv (evE (M 99 0) (M 97 32) mm (fun j => M 99 (4 + j)))) : G X 4 RX10 cX10_move 6 (some .int) (Qi (fun r M1 => IM M1 ∧ Fr (fun c => c = 97 ∨ c = 101 ∨ c = 104 ∨ c = 105 ∨ c = 112) M M1 ∧ M1 97 12 = M 97 12 ∧ M1 97 19 = M 97 19 ∧ M1 97 21 = M 97 21 ∧ M1 97 17 = M 97 17 ∧ M1 97 33 = M 97 33 ∧ M1 97 10 = M 97 10 ∧ M1 97 44 = M 97 44 ∧ ((r = 0 ∨ r = -3 ∨ r = -5) ∧ (0 ≤ M1 97 32 ∧ M1 97 32 ≤ M 97 32 + 1) ∧ KQ M M1 ∧ MVQ (M 99 0) (fun j => M 99 (4 + j)) K W i lv mm (M 97 32) r (M1 101) (M1 97 32)))) 59 [(0, vr X 97), (1, vi c)] [] M1 := by
  have p0 := hi.1.1
  have hcl2 := hcl
  obtain ⟨l0, l1, l2, l7, ⟨l4, l4n⟩, ⟨l6, l6n⟩⟩ := hcl2
  have l4a := l4.1
  have l6a := l6.1
  have clm2 := clm
  obtain ⟨m0, m1, m2, m3, m7, m4, m5, m6, m8⟩ := clm2
  have ch := cHd_v (K := K) (W := W) (i := i)
  have eE : evE (M 99 0) (M 97 32) (M 101) (fun j => M 99 (4 + j)) = evE (M 99 0) (M 97 32) mm (fun j => M 99 (4 + j)) := evE_cg e25
  refine g_aload_n (pc' := 60) 0 dX10_move_59 rfl rfl ?_
  refine g_aload_n (pc' := 61) 0 dX10_move_60 rfl rfl ?_
  refine g_getR (pc' := 64) dX10_move_61 rfl f_X10_43 rfl rfl ?_
  refine g_iload_n (pc' := 65) 1 dX10_move_64 rfl rfl ?_
  refine g_iconst (pc' := 66) dX10_move_65 rfl ?_
  refine g_iadd (pc' := 67) dX10_move_66 rfl ?_
  refine g_iald (pc' := 68) dX10_move_67 rfl rfl (by omega) (by omega) (fun v1 ev1 rv1 => ?_)
  have gv1 : v1 = M 107 (c + 3).toNat := by rw [ev1, fr1 107 (by decide)]
  refine g_aload_n (pc' := 69) 0 dX10_move_68 rfl rfl ?_
  refine g_getR (pc' := 72) dX10_move_69 rfl f_X10_43 rfl rfl ?_
  refine g_iload_n (pc' := 73) 1 dX10_move_72 rfl rfl ?_
  refine g_iconst (pc' := 74) dX10_move_73 rfl ?_
  refine g_iadd (pc' := 75) dX10_move_74 rfl ?_
  refine g_iald (pc' := 76) dX10_move_75 rfl rfl (by omega) (by omega) (fun v2 ev2 rv2 => ?_)
  have gv2 : v2 = M 107 (c + 4).toNat := by rw [ev2, fr1 107 (by decide)]
  refine g_callVv (pc' := 79) (As := [vi v1, vi v2]) (b := 97) (S := []) dX10_move_76 rfl m_X10_319 w_X10_reckonAll (c_X10_reckonAll_z X M1 ic1 v1 rv1 v2 rv2 (RG.e l4 gv1 gv2 (fr1 108 (by decide)) (fr1 109 (by decide))) (cF K W i lv) (MR.e2 m4 gv1 gv2 (fr1 108 (by decide)) (fr1 109 (by decide)))) rfl ⟨_, _, _, rfl, rfl, rfl⟩ (by decide) (by decide) rfl (Nat.le_of_ble_eq_true rfl) (fun M4 q3 => ?_)
  obtain ⟨iM4, fM40, eM4_97_12, eM4_97_19, eM4_97_21, eM4_97_32, eM4_97_17, eM4_97_33, eM4_97_10, eM4_97_44, pM4⟩ := q3
  have fM4 : Fr (fun c => c = 97 ∨ c = 101 ∨ c = 104 ∨ c = 105 ∨ c = 112) M M4 := Fr.tr fr1 fM40 fi_51
  have q97_12_M4 : (M4 97 12 = M 97 12) := eM4_97_12.trans q97_12
  have q97_19_M4 : (M4 97 19 = M 97 19) := eM4_97_19.trans q97_19
  have q97_21_M4 : (M4 97 21 = M 97 21) := eM4_97_21.trans q97_21
  have q97_17_M4 : (M4 97 17 = M 97 17) := eM4_97_17.trans q97_17
  have q97_33_M4 : (M4 97 33 = M 97 33) := eM4_97_33.trans q97_33
  have q97_10_M4 : (M4 97 10 = M 97 10) := eM4_97_10.trans q97_10
  have q97_44_M4 : (M4 97 44 = M 97 44) := eM4_97_44.trans q97_44
  have wM4_97_32 : M4 97 32 = M1 97 32 := eM4_97_32
  have fr4M4 : M4 104 = M 104 := (fM40 104 (by decide)).trans (kq1)
  have fr1M4 : M4 101 = M 101 := (fM40 101 (by decide)).trans (c1)
  obtain ⟨ilM4, vqM4⟩ := pM4
  have nnM4 : M4 99 0 = M 99 0 := congrFun (fM4 99 (by decide)) 0
  rw [fr1 99 (by decide), c1, show M1 97 32 = M 97 32 by omega, eE] at vqM4
  refine g_aload_n (pc' := 80) 0 dX10_move_79 rfl rfl ?_
  refine g_getR (pc' := 83) dX10_move_80 rfl f_X10_43 rfl rfl ?_
  refine g_iload_n (pc' := 84) 1 dX10_move_83 rfl rfl ?_
  refine g_iald (pc' := 85) dX10_move_84 rfl rfl (by omega) (by omega) (fun v5 ev5 rv5 => ?_)
  have gv5 : v5 = M 107 c.toNat := by rw [ev5, fM4 107 (by decide)]
  refine g_istore_n (pc' := 86) (i := 2) (L' := [(2, vi v5), (0, vr X 97), (1, vi c)]) dX10_move_85 rfl rfl (by decide) rfl ?_
  refine g_aload_n (pc' := 87) 1 dX10_move_86 rfl rfl ?_
  refine g_getR (pc' := 90) dX10_move_87 rfl f_X10_43 rfl rfl ?_
  refine g_iload_n (pc' := 91) 2 dX10_move_90 rfl rfl ?_
  refine g_iconst (pc' := 92) dX10_move_91 rfl ?_
  refine g_iadd (pc' := 93) dX10_move_92 rfl ?_
  refine g_iald (pc' := 94) dX10_move_93 rfl rfl (by omega) (by omega) (fun v6 ev6 rv6 => ?_)
  have gv6 : v6 = M 107 (c + 2).toNat := by rw [ev6, fM4 107 (by decide)]
  refine g_istore_n (pc' := 95) (i := 3) (L' := [(3, vi v6), (2, vi v5), (0, vr X 97), (1, vi c)]) dX10_move_94 rfl rfl (by decide) rfl ?_
  refine g_iload_n (pc' := 96) 1 dX10_move_95 rfl rfl ?_
  refine g_iconst (pc' := 97) dX10_move_96 rfl ?_
  refine g_ic_ne (pc' := 100) (tgt := 108) rv5 (by decide) dX10_move_97 rfl rfl (fun c7 => ?_) (fun c7 => ?_)
  · refine g_aload_n (pc' := 109) 2 dX10_move_108 rfl rfl ?_
    refine g_aload_n (pc' := 110) 2 dX10_move_109 rfl rfl ?_
    refine g_getR (pc' := 113) dX10_move_110 rfl f_X10_43 rfl rfl ?_
    refine g_iload_n (pc' := 114) 3 dX10_move_113 rfl rfl ?_
    refine g_iconst (pc' := 115) dX10_move_114 rfl ?_
    refine g_iadd (pc' := 116) dX10_move_115 rfl ?_
    refine g_iald (pc' := 117) dX10_move_116 rfl rfl (by omega) (by omega) (fun v8 ev8 rv8 => ?_)
    have gv8 : v8 = M 107 (c + 1).toNat := by rw [ev8, fM4 107 (by decide)]
    refine g_callVip (pc' := 120) (As := [vi v8]) (b := 97) (S := []) dX10_move_117 rfl m_X10_102 w_X10_isGlass (c_X10_isGlass X M4 iM4 v8 rv8) rfl ⟨_, _, _, rfl, rfl, rfl⟩ (by decide) (by decide) rfl (Nat.le_of_ble_eq_true rfl) (fun z10 q9 => ?_)
    refine g_if_eq (pc' := 123) (tgt := 140) ⟨by omega, by omega⟩ dX10_move_120 rfl rfl (fun c11 => ?_) (fun c11 => ?_)
    · replace q9 := q9.resolve_left (fun h => absurd (c11.symm.trans h.1) (by decide))
      refine g_iconst (pc' := 141) dX10_move_140 rfl ?_
      refine g_istore (pc' := 143) (L' := [(4, vi 0), (3, vi v6), (2, vi v5), (0, vr X 97), (1, vi c)]) dX10_move_141 rfl (by decide) rfl ?_
      refine g_sub [2, 1, 0, 3, 4] rfl ?_
      exact j_X10_move_z_143 X M hi c hc hc8 hcl hdn K W i lv clm mm e25 v5 v6 0 M4 iM4 fM4 q97_12_M4 q97_19_M4 q97_21_M4 q97_17_M4 q97_33_M4 q97_10_M4 q97_44_M4 (by omega) (fr4M4) (fr1M4) hok (by omega) (by omega) vqM4
    · replace q9 := q9.resolve_right (fun h => c11 h.1)
      refine g_iload_n (pc' := 124) 1 dX10_move_123 rfl rfl ?_
      refine g_iconst (pc' := 125) dX10_move_124 rfl ?_
      refine g_ic_eq (pc' := 128) (tgt := 136) rv5 (by decide) dX10_move_125 rfl rfl (fun c12 => ?_) (fun c12 => ?_)
      · refine g_iconst (pc' := 137) dX10_move_136 rfl ?_
        refine g_goto (tgt := 141) dX10_move_137 rfl ?_
        refine g_istore (pc' := 143) (L' := [(4, vi 1), (3, vi v6), (2, vi v5), (0, vr X 97), (1, vi c)]) dX10_move_141 rfl (by decide) rfl ?_
        refine g_sub [2, 1, 0, 3, 4] rfl ?_
        exact j_X10_move_z_143 X M hi c hc hc8 hcl hdn K W i lv clm mm e25 v5 v6 1 M4 iM4 fM4 q97_12_M4 q97_19_M4 q97_21_M4 q97_17_M4 q97_33_M4 q97_10_M4 q97_44_M4 (by omega) (fr4M4) (fr1M4) hok (by omega) (by omega) vqM4
      · refine g_aload_n (pc' := 129) 2 dX10_move_128 rfl rfl ?_
        refine g_iload_n (pc' := 130) 0 dX10_move_129 rfl rfl ?_
        refine g_callVip (pc' := 133) (As := [vi v6]) (b := 97) (S := []) dX10_move_130 rfl m_X10_102 w_X10_isGlass (c_X10_isGlass X M4 iM4 v6 rv6) rfl ⟨_, _, _, rfl, rfl, rfl⟩ (by decide) (by decide) rfl (Nat.le_of_ble_eq_true rfl) (fun z14 q13 => ?_)
        refine g_if_eq (pc' := 136) (tgt := 140) ⟨by omega, by omega⟩ dX10_move_133 rfl rfl (fun c15 => ?_) (fun c15 => ?_)
        · replace q13 := q13.resolve_left (fun h => absurd (c15.symm.trans h.1) (by decide))
          refine g_iconst (pc' := 141) dX10_move_140 rfl ?_
          refine g_istore (pc' := 143) (L' := [(4, vi 0), (3, vi v6), (2, vi v5), (0, vr X 97), (1, vi c)]) dX10_move_141 rfl (by decide) rfl ?_
          refine g_sub [2, 1, 0, 3, 4] rfl ?_
          exact j_X10_move_z_143 X M hi c hc hc8 hcl hdn K W i lv clm mm e25 v5 v6 0 M4 iM4 fM4 q97_12_M4 q97_19_M4 q97_21_M4 q97_17_M4 q97_33_M4 q97_10_M4 q97_44_M4 (by omega) (fr4M4) (fr1M4) hok (by omega) (by omega) vqM4
        · replace q13 := q13.resolve_right (fun h => c15 h.1)
          refine g_iconst (pc' := 137) dX10_move_136 rfl ?_
          refine g_goto (tgt := 141) dX10_move_137 rfl ?_
          refine g_istore (pc' := 143) (L' := [(4, vi 1), (3, vi v6), (2, vi v5), (0, vr X 97), (1, vi c)]) dX10_move_141 rfl (by decide) rfl ?_
          refine g_sub [2, 1, 0, 3, 4] rfl ?_
          exact j_X10_move_z_143 X M hi c hc hc8 hcl hdn K W i lv clm mm e25 v5 v6 1 M4 iM4 fM4 q97_12_M4 q97_19_M4 q97_21_M4 q97_17_M4 q97_33_M4 q97_10_M4 q97_44_M4 (by omega) (fr4M4) (fr1M4) hok (by omega) (by omega) vqM4
  · refine g_aload_n (pc' := 101) 2 dX10_move_100 rfl rfl ?_
    refine g_iload_n (pc' := 102) 0 dX10_move_101 rfl rfl ?_
    refine g_callVip (pc' := 105) (As := [vi v6]) (b := 97) (S := []) dX10_move_102 rfl m_X10_102 w_X10_isGlass (c_X10_isGlass X M4 iM4 v6 rv6) rfl ⟨_, _, _, rfl, rfl, rfl⟩ (by decide) (by decide) rfl (Nat.le_of_ble_eq_true rfl) (fun z17 q16 => ?_)
    refine g_goto (tgt := 141) dX10_move_105 rfl ?_
    refine g_istore (pc' := 143) (L' := [(4, vi z17), (3, vi v6), (2, vi v5), (0, vr X 97), (1, vi c)]) dX10_move_141 rfl (by decide) rfl ?_
    refine g_sub [2, 1, 0, 3, 4] rfl ?_
    exact j_X10_move_z_143 X M hi c hc hc8 hcl hdn K W i lv clm mm e25 v5 v6 z17 M4 iM4 fM4 q97_12_M4 q97_19_M4 q97_21_M4 q97_17_M4 q97_33_M4 q97_10_M4 q97_44_M4 (by omega) (fr4M4) (fr1M4) hok (by omega) (by omega) vqM4
set_option maxHeartbeats 4000000 in
set_option maxRecDepth 100000 in
theorem c_X10_move_z (X : Cx) (M : Mm) (hi : IM M) (c : Int) (hc : inI c) (hc8 : 0 ≤ c ∧ c ≤ 88) (hcl : CLv (M 107) (M 108) (M 109) (M 97 21) c) (hdn : 0 ≤ M 97 32 ∧ M 97 32 ≤ 1000) (K W : Nat → Int) (i : Nat) (lv : Int) (clm : CLM K W i lv M c) (mm : Nat → Int) (e25 : E25 mm (M 101)) : Con X 4 yX10_move cX10_move 6 (some .int) [vr X 97, vi c] M (Qi (fun r M1 => IM M1 ∧ Fr (fun c => c = 97 ∨ c = 101 ∨ c = 104 ∨ c = 105 ∨ c = 112) M M1 ∧ M1 97 12 = M 97 12 ∧ M1 97 19 = M 97 19 ∧ M1 97 21 = M 97 21 ∧ M1 97 17 = M 97 17 ∧ M1 97 33 = M 97 33 ∧ M1 97 10 = M 97 10 ∧ M1 97 44 = M 97 44 ∧ ((r = 0 ∨ r = -3 ∨ r = -5) ∧ (0 ≤ M1 97 32 ∧ M1 97 32 ≤ M 97 32 + 1) ∧ KQ M M1 ∧ MVQ (M 99 0) (fun j => M 99 (4 + j)) K W i lv mm (M 97 32) r (M1 101) (M1 97 32)))) := by
  refine Con.ofG rfl (Nat.le_of_ble_eq_true rfl) ?_
  show G X 4 RX10 cX10_move 6 (some .int) (Qi (fun r M1 => IM M1 ∧ Fr (fun c => c = 97 ∨ c = 101 ∨ c = 104 ∨ c = 105 ∨ c = 112) M M1 ∧ M1 97 12 = M 97 12 ∧ M1 97 19 = M 97 19 ∧ M1 97 21 = M 97 21 ∧ M1 97 17 = M 97 17 ∧ M1 97 33 = M 97 33 ∧ M1 97 10 = M 97 10 ∧ M1 97 44 = M 97 44 ∧ ((r = 0 ∨ r = -3 ∨ r = -5) ∧ (0 ≤ M1 97 32 ∧ M1 97 32 ≤ M 97 32 + 1) ∧ KQ M M1 ∧ MVQ (M 99 0) (fun j => M 99 (4 + j)) K W i lv mm (M 97 32) r (M1 101) (M1 97 32)))) 0 [(0, vr X 97), (1, vi c)] [] M
  have p0 := hi.1.1
  have hcl2 := hcl
  obtain ⟨l0, l1, l2, l7, ⟨l4, l4n⟩, ⟨l6, l6n⟩⟩ := hcl2
  have l4a := l4.1
  have l6a := l6.1
  have clm2 := clm
  obtain ⟨m0, m1, m2, m3, m7, m4, m5, m6, m8⟩ := clm2
  have ch := cHd_v (K := K) (W := W) (i := i)
  have eE : evE (M 99 0) (M 97 32) (M 101) (fun j => M 99 (4 + j)) = evE (M 99 0) (M 97 32) mm (fun j => M 99 (4 + j)) := evE_cg e25
  refine g_aload_n (pc' := 1) 0 dX10_move_0 rfl rfl ?_
  refine g_getR (pc' := 4) dX10_move_1 rfl f_X10_43 rfl rfl ?_
  refine g_iload_n (pc' := 5) 1 dX10_move_4 rfl rfl ?_
  refine g_iconst (pc' := 6) dX10_move_5 rfl ?_
  refine g_iadd (pc' := 7) dX10_move_6 rfl ?_
  refine g_iald (pc' := 8) dX10_move_7 rfl rfl (by omega) (by omega) (fun v1 ev1 rv1 => ?_)
  have gv1 : v1 = M 107 (c + 5).toNat := ev1
  refine g_aload_n (pc' := 9) 0 dX10_move_8 rfl rfl ?_
  refine g_getR (pc' := 12) dX10_move_9 rfl f_X10_43 rfl rfl ?_
  refine g_iload_n (pc' := 13) 1 dX10_move_12 rfl rfl ?_
  refine g_bipush (pc' := 15) (v := 6) dX10_move_13 rfl (by decide) ?_
  refine g_iadd (pc' := 16) dX10_move_15 rfl ?_
  refine g_iald (pc' := 17) dX10_move_16 rfl rfl (by omega) (by omega) (fun v2 ev2 rv2 => ?_)
  have gv2 : v2 = M 107 (c + 6).toNat := ev2
  refine g_ic_ge (pc' := 20) (tgt := 59) rv1 rv2 dX10_move_17 rfl rfl (fun c3 => ?_) (fun c3 => ?_)
  · refine g_sub [0, 1] rfl ?_
    exact j_X10_move_z_59 X M hi c hc hc8 hcl hdn K W i lv clm mm e25 M hi Fr.rf rfl rfl rfl rfl rfl rfl rfl (by omega) (rfl) (rfl) (fun y => absurd (m5 y).1 (by omega))
  · have hif : cIf K W i lv := Classical.byContradiction (fun z => by have := m6 z; omega)
    refine g_aload_n (pc' := 21) 0 dX10_move_20 rfl rfl ?_
    refine g_aload_n (pc' := 22) 0 dX10_move_21 rfl rfl ?_
    refine g_getR (pc' := 25) dX10_move_22 rfl f_X10_43 rfl rfl ?_
    refine g_iload_n (pc' := 26) 1 dX10_move_25 rfl rfl ?_
    refine g_iconst (pc' := 27) dX10_move_26 rfl ?_
    refine g_iadd (pc' := 28) dX10_move_27 rfl ?_
    refine g_iald (pc' := 29) dX10_move_28 rfl rfl (by omega) (by omega) (fun v4 ev4 rv4 => ?_)
    obtain rfl : v1 = v4 := ev1.trans ev4.symm
    refine g_aload_n (pc' := 30) 0 dX10_move_29 rfl rfl ?_
    refine g_getR (pc' := 33) dX10_move_30 rfl f_X10_43 rfl rfl ?_
    refine g_iload_n (pc' := 34) 1 dX10_move_33 rfl rfl ?_
    refine g_bipush (pc' := 36) (v := 6) dX10_move_34 rfl (by decide) ?_
    refine g_iadd (pc' := 37) dX10_move_36 rfl ?_
    refine g_iald (pc' := 38) dX10_move_37 rfl rfl (by omega) (by omega) (fun v5 ev5 rv5 => ?_)
    obtain rfl : v2 = v5 := ev2.trans ev5.symm
    refine g_callVv (pc' := 41) (As := [vi v1, vi v2]) (b := 97) (S := []) dX10_move_38 rfl m_X10_319 w_X10_reckonAll (c_X10_reckonAll_z X M hi v1 rv1 v2 rv2 (RG.e l6 gv1 gv2 rfl rfl) (cT K W i lv) (MR.e2 (m5 hif) gv1 gv2 rfl rfl)) rfl ⟨_, _, _, rfl, rfl, rfl⟩ (by decide) (by decide) rfl (Nat.le_of_ble_eq_true rfl) (fun M7 q6 => ?_)
    obtain ⟨iM7, fM70, eM7_97_12, eM7_97_19, eM7_97_21, eM7_97_32, eM7_97_17, eM7_97_33, eM7_97_10, eM7_97_44, pM7⟩ := q6
    have fM7 : Fr (fun c => c = 97 ∨ c = 101 ∨ c = 104 ∨ c = 105 ∨ c = 112) M M7 := Fr.tr Fr.rf fM70 fi_51
    have q97_12_M7 : (M7 97 12 = M 97 12) := eM7_97_12
    have q97_19_M7 : (M7 97 19 = M 97 19) := eM7_97_19
    have q97_21_M7 : (M7 97 21 = M 97 21) := eM7_97_21
    have q97_17_M7 : (M7 97 17 = M 97 17) := eM7_97_17
    have q97_33_M7 : (M7 97 33 = M 97 33) := eM7_97_33
    have q97_10_M7 : (M7 97 10 = M 97 10) := eM7_97_10
    have q97_44_M7 : (M7 97 44 = M 97 44) := eM7_97_44
    have wM7_97_32 : M7 97 32 = M 97 32 := eM7_97_32
    have fr4M7 : M7 104 = M 104 := (fM70 104 (by decide)).trans (rfl)
    have fr1M7 : M7 101 = M 101 := (fM70 101 (by decide)).trans (rfl)
    obtain ⟨ilM7, vqM7⟩ := pM7
    have nnM7 : M7 99 0 = M 99 0 := congrFun (fM7 99 (by decide)) 0
    refine g_aload_n (pc' := 42) 0 dX10_move_41 rfl rfl ?_
    refine g_getI (pc' := 45) dX10_move_42 rfl f_X10_301 rfl rfl (fun v8 ev8 rv8 => ?_)
    refine g_if_ne (pc' := 48) (tgt := 57) rv8 dX10_move_45 rfl rfl (fun c9 => ?_) (fun c9 => ?_)
    · refine g_iconst (pc' := 58) dX10_move_57 rfl ?_
      refine g_ireturn dX10_move_58 ?_
      exact ⟨iM7, fM7, q97_12_M7, q97_19_M7, q97_21_M7, q97_17_M7, q97_33_M7, q97_10_M7, q97_44_M7, by omega, by omega, (KQ.e (fr4M7)), MVM.nn (fun y => (eE ▸ vqM7 : VLQ (evE (M 99 0) (M 97 32) mm (fun j => M 99 (4 + j))) _ _ _).no (by omega) (y hif)) (by rw [fr1M7]; exact e25) (by omega) (by omega)⟩
    · refine g_aload_n (pc' := 49) 0 dX10_move_48 rfl rfl ?_
      refine g_getL (pc' := 52) dX10_move_49 rfl f_X10_316 rfl rfl (fun v10 ev10 rv10 => ?_)
      refine g_lconst (pc' := 53) (v := 0) dX10_move_52 rfl (by decide) ?_
      refine g_lc_ne (pc' := 57) (tgt := 59) rv10 (by decide) dX10_move_53 dX10_move_54 rfl rfl (fun c11 => ?_) (fun c11 => ?_)
      · refine g_sub [0, 1] rfl ?_
        exact j_X10_move_z_59 X M hi c hc hc8 hcl hdn K W i lv clm mm e25 M7 iM7 fM7 q97_12_M7 q97_19_M7 q97_21_M7 q97_17_M7 q97_33_M7 q97_10_M7 q97_44_M7 (by omega) (fr4M7) (fr1M7) (fun _ => ⟨_, (eE ▸ vqM7).yes (by omega), by omega⟩)
      · refine g_iconst (pc' := 58) dX10_move_57 rfl ?_
        refine g_ireturn dX10_move_58 ?_
        exact ⟨iM7, fM7, q97_12_M7, q97_19_M7, q97_21_M7, q97_17_M7, q97_33_M7, q97_10_M7, q97_44_M7, by omega, by omega, (KQ.e (fr4M7)), MVM.nn (fun y => (eE ▸ vqM7 : VLQ (evE (M 99 0) (M 97 32) mm (fun j => M 99 (4 + j))) _ _ _).no (by omega) (y hif)) (by rw [fr1M7]; exact e25) (by omega) (by omega)⟩
