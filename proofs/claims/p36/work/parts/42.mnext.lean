set_option maxHeartbeats 4000000 in
set_option maxRecDepth 100000 in
theorem c_X10_isSmall (X : Cx) (M : Mm) (a : Int) (ha : inI a) : Con X 0 yX10_isSmall cX10_isSmall 1 (some .boolean) [vi a] M (Qi (fun r M1 => M1 = M ∧ ((r = 1 ∧ 97 ≤ a ∧ a ≤ 122) ∨ (r = 0 ∧ (a < 97 ∨ 122 < a))))) := by
  refine Con.ofG rfl (Nat.le_of_ble_eq_true rfl) ?_
  show G X 0 RX10 cX10_isSmall 1 (some .boolean) (Qi (fun r M1 => M1 = M ∧ ((r = 1 ∧ 97 ≤ a ∧ a ≤ 122) ∨ (r = 0 ∧ (a < 97 ∨ 122 < a))))) 0 [(0, vi a)] [] M
  refine g_iload_n (pc' := 1) 0 dX10_isSmall_0 rfl rfl ?_
  refine g_bipush (pc' := 3) (v := 97) dX10_isSmall_1 rfl (by decide) ?_
  refine g_ic_lt (pc' := 6) (tgt := 16) ha (by decide) dX10_isSmall_3 rfl rfl (fun c1 => ?_) (fun c1 => ?_)
  · refine g_iconst (pc' := 17) dX10_isSmall_16 rfl ?_
    refine g_zreturn dX10_isSmall_17 (by omega) ?_
    exact ⟨rfl, by omega⟩
  · refine g_iload_n (pc' := 7) 0 dX10_isSmall_6 rfl rfl ?_
    refine g_bipush (pc' := 9) (v := 122) dX10_isSmall_7 rfl (by decide) ?_
    refine g_ic_gt (pc' := 12) (tgt := 16) ha (by decide) dX10_isSmall_9 rfl rfl (fun c2 => ?_) (fun c2 => ?_)
    · refine g_iconst (pc' := 17) dX10_isSmall_16 rfl ?_
      refine g_zreturn dX10_isSmall_17 (by omega) ?_
      exact ⟨rfl, by omega⟩
    · refine g_iconst (pc' := 13) dX10_isSmall_12 rfl ?_
      refine g_goto (tgt := 17) dX10_isSmall_13 rfl ?_
      refine g_zreturn dX10_isSmall_17 (by omega) ?_
      exact ⟨rfl, by omega⟩
set_option maxHeartbeats 4000000 in
set_option maxRecDepth 100000 in
theorem c_X10_isDigit (X : Cx) (M : Mm) (a : Int) (ha : inI a) : Con X 0 yX10_isDigit cX10_isDigit 1 (some .boolean) [vi a] M (Qi (fun r M1 => M1 = M ∧ ((r = 1 ∧ 48 ≤ a ∧ a ≤ 57) ∨ (r = 0 ∧ (a < 48 ∨ 57 < a))))) := by
  refine Con.ofG rfl (Nat.le_of_ble_eq_true rfl) ?_
  show G X 0 RX10 cX10_isDigit 1 (some .boolean) (Qi (fun r M1 => M1 = M ∧ ((r = 1 ∧ 48 ≤ a ∧ a ≤ 57) ∨ (r = 0 ∧ (a < 48 ∨ 57 < a))))) 0 [(0, vi a)] [] M
  refine g_iload_n (pc' := 1) 0 dX10_isDigit_0 rfl rfl ?_
  refine g_bipush (pc' := 3) (v := 48) dX10_isDigit_1 rfl (by decide) ?_
  refine g_ic_lt (pc' := 6) (tgt := 16) ha (by decide) dX10_isDigit_3 rfl rfl (fun c1 => ?_) (fun c1 => ?_)
  · refine g_iconst (pc' := 17) dX10_isDigit_16 rfl ?_
    refine g_zreturn dX10_isDigit_17 (by omega) ?_
    exact ⟨rfl, by omega⟩
  · refine g_iload_n (pc' := 7) 0 dX10_isDigit_6 rfl rfl ?_
    refine g_bipush (pc' := 9) (v := 57) dX10_isDigit_7 rfl (by decide) ?_
    refine g_ic_gt (pc' := 12) (tgt := 16) ha (by decide) dX10_isDigit_9 rfl rfl (fun c2 => ?_) (fun c2 => ?_)
    · refine g_iconst (pc' := 17) dX10_isDigit_16 rfl ?_
      refine g_zreturn dX10_isDigit_17 (by omega) ?_
      exact ⟨rfl, by omega⟩
    · refine g_iconst (pc' := 13) dX10_isDigit_12 rfl ?_
      refine g_goto (tgt := 17) dX10_isDigit_13 rfl ?_
      refine g_zreturn dX10_isDigit_17 (by omega) ?_
      exact ⟨rfl, by omega⟩
set_option maxHeartbeats 4000000 in
set_option maxRecDepth 100000 in
theorem l_X10_next_243 (X : Cx) (M : Mm) (hi : IM M) (h14 : 0 ≤ M 97 14 ∧ M 97 14 ≤ M 97 12) : ∀ (kk : Nat)  (M1 : Mm) (ic1 : IM M1) (fr1 : Fr (fun c => c = 97) M M1) (q97_12 : (M1 97 12 = M 97 12)) (q97_19 : (M1 97 19 = M 97 19)) (q97_21 : (M1 97 21 = M 97 21)) (q97_24 : (M1 97 24 = M 97 24)) (q97_27 : (M1 97 27 = M 97 27)) (q97_28 : (M1 97 28 = M 97 28)) (q97_18 : (M1 97 18 = M 97 18)) (g1 : M 97 14 ≤ M1 97 13 ∧ M1 97 13 ≤ M1 97 14 ∧ M1 97 14 ≤ M1 97 12) (g2 : 0 ≤ M1 97 15 ∧ M1 97 15 ≤ 3) (fv : Int) (hfv : M1 97 13 = fv) (gp : NXp M1 (M 106 fv.toNat)) (g3 : M1 97 15 = 1 → M1 97 13 < M1 97 14), (M1 97 12 - M1 97 14).toNat = kk → G X 1 RX10 cX10_next 1 none (Qv (fun M1 => IM M1 ∧ Fr (fun c => c = 97) M M1 ∧ M1 97 12 = M 97 12 ∧ M1 97 19 = M 97 19 ∧ M1 97 21 = M 97 21 ∧ M1 97 24 = M 97 24 ∧ M1 97 27 = M 97 27 ∧ M1 97 28 = M 97 28 ∧ M1 97 18 = M 97 18 ∧ (M 97 14 ≤ M1 97 13 ∧ (0 ≤ M1 97 13 ∧ M1 97 13 ≤ M1 97 14 ∧ M1 97 14 ≤ M1 97 12) ∧ (0 ≤ M1 97 15 ∧ M1 97 15 ≤ 3) ∧ (M1 97 15 ≠ 0 → M1 97 13 < M1 97 14) ∧ (M1 97 15 = 2 → 0 ≤ M1 97 16 ∧ M1 97 16 ≤ 10000009)))) 243 [(0, vr X 97)] [] M1 := by
  intro kk
  induction kk using Nat.strongRecOn with
  | ind kk ih =>
    intro M1 ic1 fr1 q97_12 q97_19 q97_21 q97_24 q97_27 q97_28 q97_18 g1 g2 fv hfv gp g3 hmes
    have p12 := hi.2.2.2.1
    refine g_aload_n (pc' := 244) 0 dX10_next_243 rfl rfl ?_
    refine g_getI (pc' := 247) dX10_next_244 rfl f_X10_174 rfl rfl (fun v1 ev1 rv1 => ?_)
    refine g_iconst (pc' := 248) dX10_next_247 rfl ?_
    refine g_ic_ne (pc' := 251) (tgt := 335) rv1 (by decide) dX10_next_248 rfl rfl (fun c2 => ?_) (fun c2 => ?_)
    · refine g_vreturn dX10_next_335 ?_
      exact ⟨ic1, fr1, q97_12, q97_19, q97_21, q97_24, q97_27, q97_28, q97_18, by omega, ⟨by omega, by omega, by omega⟩, by omega, by unfold NXp at gp; omega, by unfold NXp at gp; omega⟩
    · refine g_aload_n (pc' := 252) 0 dX10_next_251 rfl rfl ?_
      refine g_getI (pc' := 255) dX10_next_252 rfl f_X10_151 rfl rfl (fun v3 ev3 rv3 => ?_)
      refine g_aload_n (pc' := 256) 0 dX10_next_255 rfl rfl ?_
      refine g_getI (pc' := 259) dX10_next_256 rfl f_X10_142 rfl rfl (fun v4 ev4 rv4 => ?_)
      have bv4 : 0 ≤ v4 ∧ v4 ≤ 400 := by rw [ev4]; exact ic1.2.2.2.1
      have av4 : v4 = M 97 12 := ev4.trans q97_12
      refine g_ic_ge (pc' := 262) (tgt := 335) rv3 rv4 dX10_next_259 rfl rfl (fun c5 => ?_) (fun c5 => ?_)
      · refine g_vreturn dX10_next_335 ?_
        exact ⟨ic1, fr1, q97_12, q97_19, q97_21, q97_24, q97_27, q97_28, q97_18, by omega, ⟨by omega, by omega, by omega⟩, by omega, by unfold NXp at gp; omega, by unfold NXp at gp; omega⟩
      · refine g_aload_n (pc' := 263) 0 dX10_next_262 rfl rfl ?_
        refine g_getR (pc' := 266) dX10_next_263 rfl f_X10_36 rfl rfl ?_
        refine g_aload_n (pc' := 267) 0 dX10_next_266 rfl rfl ?_
        refine g_getI (pc' := 270) dX10_next_267 rfl f_X10_151 rfl rfl (fun v6 ev6 rv6 => ?_)
        obtain rfl : v3 = v6 := ev3.trans ev6.symm
        refine g_iald (pc' := 271) dX10_next_270 rfl rfl (by omega) (by omega) (fun v7 ev7 rv7 => ?_)
        have tv7 : TT v3 fv v7 (M 106 fv.toNat) := fun z => by rw [ev7, fr1 106 (by decide), z]
        refine g_callSip (pc' := 274) (As := [vi v7]) (S := []) dX10_next_271 rfl m_X10_171 w_X10_isDigit (c_X10_isDigit X M1 v7 rv7) rfl (by decide) (by decide) rfl (Nat.le_of_ble_eq_true rfl) (fun z9 q8 => ?_)
        refine g_if_eq (pc' := 277) (tgt := 335) ⟨by omega, by omega⟩ dX10_next_274 rfl rfl (fun c10 => ?_) (fun c10 => ?_)
        · replace q8 := q8.resolve_left (fun h => absurd (c10.symm.trans h.1) (by decide))
          refine g_vreturn dX10_next_335 ?_
          exact ⟨ic1, fr1, q97_12, q97_19, q97_21, q97_24, q97_27, q97_28, q97_18, by omega, ⟨by omega, by omega, by omega⟩, by omega, by unfold NXp at gp; unfold TT at tv7; omega, by unfold NXp at gp; unfold TT at tv7; omega⟩
        · replace q8 := q8.resolve_right (fun h => c10 h.1)
          have gw : 0 ≤ M1 97 16 ∧ M1 97 16 ≤ 10000009 := by unfold NXp at gp; omega
          refine g_aload_n (pc' := 278) 0 dX10_next_277 rfl rfl ?_
          refine g_aload_n (pc' := 279) 0 dX10_next_278 rfl rfl ?_
          refine g_getL (pc' := 282) dX10_next_279 rfl f_X10_164 rfl rfl (fun v11 ev11 rv11 => ?_)
          refine g_ldc2 (pc' := 285) (v := 1000000) dX10_next_282 rfl k_X10_181 ?_
          refine g_lc_le (pc' := 289) (tgt := 296) rv11 (by decide) dX10_next_285 dX10_next_286 rfl rfl (fun c12 => ?_) (fun c12 => ?_)
          · refine g_aload_n (pc' := 297) 0 dX10_next_296 rfl rfl ?_
            refine g_getL (pc' := 300) dX10_next_297 rfl f_X10_164 rfl rfl (fun v13 ev13 rv13 => ?_)
            obtain rfl : v11 = v13 := ev11.trans ev13.symm
            refine g_ldc2 (pc' := 303) (v := 10) dX10_next_300 rfl k_X10_183 ?_
            refine g_lmul (pc' := 304) dX10_next_303 rfl ?_
            refine g_aload_n (pc' := 305) 0 dX10_next_304 rfl rfl ?_
            refine g_getR (pc' := 308) dX10_next_305 rfl f_X10_36 rfl rfl ?_
            refine g_aload_n (pc' := 309) 0 dX10_next_308 rfl rfl ?_
            refine g_getI (pc' := 312) dX10_next_309 rfl f_X10_151 rfl rfl (fun v14 ev14 rv14 => ?_)
            obtain rfl : v3 = v14 := ev3.trans ev14.symm
            refine g_iald (pc' := 313) dX10_next_312 rfl rfl (by omega) (by omega) (fun v15 ev15 rv15 => ?_)
            obtain rfl : v7 = v15 := ev7.trans ev15.symm
            refine g_i2l (pc' := 314) rv7 dX10_next_313 rfl ?_
            refine g_ladd (pc' := 315) dX10_next_314 rfl ?_
            refine g_ldc2 (pc' := 318) (v := 48) dX10_next_315 rfl k_X10_185 ?_
            refine g_lsub (pc' := 319) dX10_next_318 rfl ?_
            refine g_putL (pc' := 322) dX10_next_319 rfl p_X10_164 rfl rfl ⟨by omega, by omega⟩ (fun M16 hM16 => ?_)
            have iM16 : IM M16 := IM.wr ic1 hM16 (by unfold okv; first | decide | omega)
            have fM16 : Fr (fun c => c = 97) M M16 := Fr.wr fr1 hM16 (by first | decide | omega | (dsimp only; omega))
            have q97_12_M16 : (M16 97 12 = M 97 12) := (show M16 97 12 = M1 97 12 by rw [hM16]; exact mu_ne _ _ (by first | decide | omega)).trans q97_12
            have q97_19_M16 : (M16 97 19 = M 97 19) := (show M16 97 19 = M1 97 19 by rw [hM16]; exact mu_ne _ _ (by first | decide | omega)).trans q97_19
            have q97_21_M16 : (M16 97 21 = M 97 21) := (show M16 97 21 = M1 97 21 by rw [hM16]; exact mu_ne _ _ (by first | decide | omega)).trans q97_21
            have q97_24_M16 : (M16 97 24 = M 97 24) := (show M16 97 24 = M1 97 24 by rw [hM16]; exact mu_ne _ _ (by first | decide | omega)).trans q97_24
            have q97_27_M16 : (M16 97 27 = M 97 27) := (show M16 97 27 = M1 97 27 by rw [hM16]; exact mu_ne _ _ (by first | decide | omega)).trans q97_27
            have q97_28_M16 : (M16 97 28 = M 97 28) := (show M16 97 28 = M1 97 28 by rw [hM16]; exact mu_ne _ _ (by first | decide | omega)).trans q97_28
            have q97_18_M16 : (M16 97 18 = M 97 18) := (show M16 97 18 = M1 97 18 by rw [hM16]; exact mu_ne _ _ (by first | decide | omega)).trans q97_18
            have wM16_97_13 : M16 97 13 = M1 97 13 := by rw [hM16]; exact mu_ne _ _ (by first | decide | omega)
            have wM16_97_14 : M16 97 14 = M1 97 14 := by rw [hM16]; exact mu_ne _ _ (by first | decide | omega)
            have wM16_97_15 : M16 97 15 = M1 97 15 := by rw [hM16]; exact mu_ne _ _ (by first | decide | omega)
            have xM16_97_16 : M16 97 16 = ((v11 * 10) + v7) - 48 := by rw [hM16]; exact mu_at _ _ _ _
            refine g_aload_n (pc' := 323) 0 dX10_next_322 rfl rfl ?_
            refine g_dup (pc' := 324) dX10_next_323 rfl rfl ?_
            refine g_getI (pc' := 327) dX10_next_324 rfl f_X10_151 rfl rfl (fun v17 ev17 rv17 => ?_)
            refine g_iconst (pc' := 328) dX10_next_327 rfl ?_
            refine g_iadd (pc' := 329) dX10_next_328 rfl ?_
            refine g_putI (pc' := 332) dX10_next_329 rfl p_X10_151 rfl rfl ⟨by omega, by omega⟩ (fun M18 hM18 => ?_)
            have iM18 : IM M18 := IM.wr iM16 hM18 (by unfold okv; first | decide | omega)
            have fM18 : Fr (fun c => c = 97) M M18 := Fr.wr fM16 hM18 (by first | decide | omega | (dsimp only; omega))
            have q97_12_M18 : (M18 97 12 = M 97 12) := (show M18 97 12 = M16 97 12 by rw [hM18]; exact mu_ne _ _ (by first | decide | omega)).trans q97_12_M16
            have q97_19_M18 : (M18 97 19 = M 97 19) := (show M18 97 19 = M16 97 19 by rw [hM18]; exact mu_ne _ _ (by first | decide | omega)).trans q97_19_M16
            have q97_21_M18 : (M18 97 21 = M 97 21) := (show M18 97 21 = M16 97 21 by rw [hM18]; exact mu_ne _ _ (by first | decide | omega)).trans q97_21_M16
            have q97_24_M18 : (M18 97 24 = M 97 24) := (show M18 97 24 = M16 97 24 by rw [hM18]; exact mu_ne _ _ (by first | decide | omega)).trans q97_24_M16
            have q97_27_M18 : (M18 97 27 = M 97 27) := (show M18 97 27 = M16 97 27 by rw [hM18]; exact mu_ne _ _ (by first | decide | omega)).trans q97_27_M16
            have q97_28_M18 : (M18 97 28 = M 97 28) := (show M18 97 28 = M16 97 28 by rw [hM18]; exact mu_ne _ _ (by first | decide | omega)).trans q97_28_M16
            have q97_18_M18 : (M18 97 18 = M 97 18) := (show M18 97 18 = M16 97 18 by rw [hM18]; exact mu_ne _ _ (by first | decide | omega)).trans q97_18_M16
            have wM18_97_13 : M18 97 13 = M16 97 13 := by rw [hM18]; exact mu_ne _ _ (by first | decide | omega)
            have wM18_97_15 : M18 97 15 = M16 97 15 := by rw [hM18]; exact mu_ne _ _ (by first | decide | omega)
            have wM18_97_16 : M18 97 16 = M16 97 16 := by rw [hM18]; exact mu_ne _ _ (by first | decide | omega)
            have xM18_97_16 : M18 97 16 = ((v11 * 10) + v7) - 48 := (show M18 97 16 = M16 97 16 by rw [hM18]; exact mu_ne _ _ (by first | decide | omega)).trans xM16_97_16
            have xM18_97_14 : M18 97 14 = v17 + 1 := by rw [hM18]; exact mu_at _ _ _ _
            refine g_goto (tgt := 243) dX10_next_332 rfl ?_
            refine g_sub [0] rfl ?_
            exact ih _ (by omega) M18 iM18 fM18 q97_12_M18 q97_19_M18 q97_21_M18 q97_24_M18 q97_27_M18 q97_28_M18 q97_18_M18 (by omega) (by omega) fv (by omega) (by unfold NXp at gp ⊢; unfold TT at tv7; omega) (by omega) rfl
          · refine g_aload_n (pc' := 290) 0 dX10_next_289 rfl rfl ?_
            refine g_getL (pc' := 293) dX10_next_290 rfl f_X10_164 rfl rfl (fun v19 ev19 rv19 => ?_)
            obtain rfl : v11 = v19 := ev11.trans ev19.symm
            refine g_goto (tgt := 319) dX10_next_293 rfl ?_
            refine g_putL (pc' := 322) dX10_next_319 rfl p_X10_164 rfl rfl rv11 (fun M20 hM20 => ?_)
            have iM20 : IM M20 := IM.wr ic1 hM20 (by unfold okv; first | decide | omega)
            have fM20 : Fr (fun c => c = 97) M M20 := Fr.wr fr1 hM20 (by first | decide | omega | (dsimp only; omega))
            have q97_12_M20 : (M20 97 12 = M 97 12) := (show M20 97 12 = M1 97 12 by rw [hM20]; exact mu_ne _ _ (by first | decide | omega)).trans q97_12
            have q97_19_M20 : (M20 97 19 = M 97 19) := (show M20 97 19 = M1 97 19 by rw [hM20]; exact mu_ne _ _ (by first | decide | omega)).trans q97_19
            have q97_21_M20 : (M20 97 21 = M 97 21) := (show M20 97 21 = M1 97 21 by rw [hM20]; exact mu_ne _ _ (by first | decide | omega)).trans q97_21
            have q97_24_M20 : (M20 97 24 = M 97 24) := (show M20 97 24 = M1 97 24 by rw [hM20]; exact mu_ne _ _ (by first | decide | omega)).trans q97_24
            have q97_27_M20 : (M20 97 27 = M 97 27) := (show M20 97 27 = M1 97 27 by rw [hM20]; exact mu_ne _ _ (by first | decide | omega)).trans q97_27
            have q97_28_M20 : (M20 97 28 = M 97 28) := (show M20 97 28 = M1 97 28 by rw [hM20]; exact mu_ne _ _ (by first | decide | omega)).trans q97_28
            have q97_18_M20 : (M20 97 18 = M 97 18) := (show M20 97 18 = M1 97 18 by rw [hM20]; exact mu_ne _ _ (by first | decide | omega)).trans q97_18
            have wM20_97_13 : M20 97 13 = M1 97 13 := by rw [hM20]; exact mu_ne _ _ (by first | decide | omega)
            have wM20_97_14 : M20 97 14 = M1 97 14 := by rw [hM20]; exact mu_ne _ _ (by first | decide | omega)
            have wM20_97_15 : M20 97 15 = M1 97 15 := by rw [hM20]; exact mu_ne _ _ (by first | decide | omega)
            have xM20_97_16 : M20 97 16 = v11 := by rw [hM20]; exact mu_at _ _ _ _
            refine g_aload_n (pc' := 323) 0 dX10_next_322 rfl rfl ?_
            refine g_dup (pc' := 324) dX10_next_323 rfl rfl ?_
            refine g_getI (pc' := 327) dX10_next_324 rfl f_X10_151 rfl rfl (fun v21 ev21 rv21 => ?_)
            refine g_iconst (pc' := 328) dX10_next_327 rfl ?_
            refine g_iadd (pc' := 329) dX10_next_328 rfl ?_
            refine g_putI (pc' := 332) dX10_next_329 rfl p_X10_151 rfl rfl ⟨by omega, by omega⟩ (fun M22 hM22 => ?_)
            have iM22 : IM M22 := IM.wr iM20 hM22 (by unfold okv; first | decide | omega)
            have fM22 : Fr (fun c => c = 97) M M22 := Fr.wr fM20 hM22 (by first | decide | omega | (dsimp only; omega))
            have q97_12_M22 : (M22 97 12 = M 97 12) := (show M22 97 12 = M20 97 12 by rw [hM22]; exact mu_ne _ _ (by first | decide | omega)).trans q97_12_M20
            have q97_19_M22 : (M22 97 19 = M 97 19) := (show M22 97 19 = M20 97 19 by rw [hM22]; exact mu_ne _ _ (by first | decide | omega)).trans q97_19_M20
            have q97_21_M22 : (M22 97 21 = M 97 21) := (show M22 97 21 = M20 97 21 by rw [hM22]; exact mu_ne _ _ (by first | decide | omega)).trans q97_21_M20
            have q97_24_M22 : (M22 97 24 = M 97 24) := (show M22 97 24 = M20 97 24 by rw [hM22]; exact mu_ne _ _ (by first | decide | omega)).trans q97_24_M20
            have q97_27_M22 : (M22 97 27 = M 97 27) := (show M22 97 27 = M20 97 27 by rw [hM22]; exact mu_ne _ _ (by first | decide | omega)).trans q97_27_M20
            have q97_28_M22 : (M22 97 28 = M 97 28) := (show M22 97 28 = M20 97 28 by rw [hM22]; exact mu_ne _ _ (by first | decide | omega)).trans q97_28_M20
            have q97_18_M22 : (M22 97 18 = M 97 18) := (show M22 97 18 = M20 97 18 by rw [hM22]; exact mu_ne _ _ (by first | decide | omega)).trans q97_18_M20
            have wM22_97_13 : M22 97 13 = M20 97 13 := by rw [hM22]; exact mu_ne _ _ (by first | decide | omega)
            have wM22_97_15 : M22 97 15 = M20 97 15 := by rw [hM22]; exact mu_ne _ _ (by first | decide | omega)
            have wM22_97_16 : M22 97 16 = M20 97 16 := by rw [hM22]; exact mu_ne _ _ (by first | decide | omega)
            have xM22_97_16 : M22 97 16 = v11 := (show M22 97 16 = M20 97 16 by rw [hM22]; exact mu_ne _ _ (by first | decide | omega)).trans xM20_97_16
            have xM22_97_14 : M22 97 14 = v21 + 1 := by rw [hM22]; exact mu_at _ _ _ _
            refine g_goto (tgt := 243) dX10_next_332 rfl ?_
            refine g_sub [0] rfl ?_
            exact ih _ (by omega) M22 iM22 fM22 q97_12_M22 q97_19_M22 q97_21_M22 q97_24_M22 q97_27_M22 q97_28_M22 q97_18_M22 (by omega) (by omega) fv (by omega) (by unfold NXp at gp ⊢; unfold TT at tv7; omega) (by omega) rfl
set_option maxHeartbeats 4000000 in
set_option maxRecDepth 100000 in
theorem l_X10_next_149 (X : Cx) (M : Mm) (hi : IM M) (h14 : 0 ≤ M 97 14 ∧ M 97 14 ≤ M 97 12) : ∀ (kk : Nat)  (M1 : Mm) (ic1 : IM M1) (fr1 : Fr (fun c => c = 97) M M1) (q97_12 : (M1 97 12 = M 97 12)) (q97_19 : (M1 97 19 = M 97 19)) (q97_21 : (M1 97 21 = M 97 21)) (q97_24 : (M1 97 24 = M 97 24)) (q97_27 : (M1 97 27 = M 97 27)) (q97_28 : (M1 97 28 = M 97 28)) (q97_18 : (M1 97 18 = M 97 18)) (g1 : M 97 14 ≤ M1 97 13 ∧ M1 97 13 ≤ M1 97 14 ∧ M1 97 14 ≤ M1 97 12) (g2 : 0 ≤ M1 97 15 ∧ M1 97 15 ≤ 3) (fv : Int) (hfv : M1 97 13 = fv) (gp : NXp M1 (M 106 fv.toNat)), (M1 97 12 - M1 97 14).toNat = kk → G X 1 RX10 cX10_next 1 none (Qv (fun M1 => IM M1 ∧ Fr (fun c => c = 97) M M1 ∧ M1 97 12 = M 97 12 ∧ M1 97 19 = M 97 19 ∧ M1 97 21 = M 97 21 ∧ M1 97 24 = M 97 24 ∧ M1 97 27 = M 97 27 ∧ M1 97 28 = M 97 28 ∧ M1 97 18 = M 97 18 ∧ (M 97 14 ≤ M1 97 13 ∧ (0 ≤ M1 97 13 ∧ M1 97 13 ≤ M1 97 14 ∧ M1 97 14 ≤ M1 97 12) ∧ (0 ≤ M1 97 15 ∧ M1 97 15 ≤ 3) ∧ (M1 97 15 ≠ 0 → M1 97 13 < M1 97 14) ∧ (M1 97 15 = 2 → 0 ≤ M1 97 16 ∧ M1 97 16 ≤ 10000009)))) 149 [(0, vr X 97)] [] M1 := by
  intro kk
  induction kk using Nat.strongRecOn with
  | ind kk ih =>
    intro M1 ic1 fr1 q97_12 q97_19 q97_21 q97_24 q97_27 q97_28 q97_18 g1 g2 fv hfv gp hmes
    have p12 := hi.2.2.2.1
    refine g_aload_n (pc' := 150) 0 dX10_next_149 rfl rfl ?_
    refine g_getI (pc' := 153) dX10_next_150 rfl f_X10_174 rfl rfl (fun v1 ev1 rv1 => ?_)
    refine g_iconst (pc' := 154) dX10_next_153 rfl ?_
    refine g_ic_ne (pc' := 157) (tgt := 243) rv1 (by decide) dX10_next_154 rfl rfl (fun c2 => ?_) (fun c2 => ?_)
    · refine g_sub [0] rfl ?_
      exact l_X10_next_243 X M hi h14 _ M1 ic1 fr1 q97_12 q97_19 q97_21 q97_24 q97_27 q97_28 q97_18 (by omega) (by omega) fv (by omega) (by unfold NXp at gp ⊢; omega) (by unfold NXp at gp; omega) rfl
    · refine g_aload_n (pc' := 158) 0 dX10_next_157 rfl rfl ?_
      refine g_getI (pc' := 161) dX10_next_158 rfl f_X10_151 rfl rfl (fun v3 ev3 rv3 => ?_)
      refine g_aload_n (pc' := 162) 0 dX10_next_161 rfl rfl ?_
      refine g_getI (pc' := 165) dX10_next_162 rfl f_X10_142 rfl rfl (fun v4 ev4 rv4 => ?_)
      have bv4 : 0 ≤ v4 ∧ v4 ≤ 400 := by rw [ev4]; exact ic1.2.2.2.1
      have av4 : v4 = M 97 12 := ev4.trans q97_12
      refine g_ic_ge (pc' := 168) (tgt := 243) rv3 rv4 dX10_next_165 rfl rfl (fun c5 => ?_) (fun c5 => ?_)
      · refine g_sub [0] rfl ?_
        exact l_X10_next_243 X M hi h14 _ M1 ic1 fr1 q97_12 q97_19 q97_21 q97_24 q97_27 q97_28 q97_18 (by omega) (by omega) fv (by omega) (by unfold NXp at gp ⊢; omega) (by unfold NXp at gp; omega) rfl
      · refine g_aload_n (pc' := 169) 0 dX10_next_168 rfl rfl ?_
        refine g_getR (pc' := 172) dX10_next_169 rfl f_X10_36 rfl rfl ?_
        refine g_aload_n (pc' := 173) 0 dX10_next_172 rfl rfl ?_
        refine g_getI (pc' := 176) dX10_next_173 rfl f_X10_151 rfl rfl (fun v6 ev6 rv6 => ?_)
        obtain rfl : v3 = v6 := ev3.trans ev6.symm
        refine g_iald (pc' := 177) dX10_next_176 rfl rfl (by omega) (by omega) (fun v7 ev7 rv7 => ?_)
        have tv7 : TT v3 fv v7 (M 106 fv.toNat) := fun z => by rw [ev7, fr1 106 (by decide), z]
        refine g_callSip (pc' := 180) (As := [vi v7]) (S := []) dX10_next_177 rfl m_X10_168 w_X10_isSmall (c_X10_isSmall X M1 v7 rv7) rfl (by decide) (by decide) rfl (Nat.le_of_ble_eq_true rfl) (fun z9 q8 => ?_)
        refine g_if_eq (pc' := 183) (tgt := 243) ⟨by omega, by omega⟩ dX10_next_180 rfl rfl (fun c10 => ?_) (fun c10 => ?_)
        · replace q8 := q8.resolve_left (fun h => absurd (c10.symm.trans h.1) (by decide))
          refine g_sub [0] rfl ?_
          exact l_X10_next_243 X M hi h14 _ M1 ic1 fr1 q97_12 q97_19 q97_21 q97_24 q97_27 q97_28 q97_18 (by omega) (by omega) fv (by omega) (by unfold NXp at gp ⊢; unfold TT at tv7; omega) (by unfold NXp at gp; unfold TT at tv7; omega) rfl
        · replace q8 := q8.resolve_right (fun h => c10 h.1)
          refine g_aload_n (pc' := 184) 0 dX10_next_183 rfl rfl ?_
          refine g_aload_n (pc' := 185) 0 dX10_next_184 rfl rfl ?_
          refine g_getI (pc' := 188) dX10_next_185 rfl f_X10_151 rfl rfl (fun v11 ev11 rv11 => ?_)
          obtain rfl : v3 = v11 := ev3.trans ev11.symm
          refine g_aload_n (pc' := 189) 0 dX10_next_188 rfl rfl ?_
          refine g_getI (pc' := 192) dX10_next_189 rfl f_X10_161 rfl rfl (fun v12 ev12 rv12 => ?_)
          refine g_isub (pc' := 193) dX10_next_192 rfl ?_
          refine g_bipush (pc' := 195) (v := 10) dX10_next_193 rfl (by decide) ?_
          refine g_ic_ge (pc' := 198) (tgt := 224) ⟨by omega, by omega⟩ (by decide) dX10_next_195 rfl rfl (fun c13 => ?_) (fun c13 => ?_)
          · refine g_ldc2 (pc' := 227) (v := (-1)) dX10_next_224 rfl k_X10_108 ?_
            refine g_putL (pc' := 230) dX10_next_227 rfl p_X10_164 rfl rfl (by decide) (fun M14 hM14 => ?_)
            have iM14 : IM M14 := IM.wr ic1 hM14 (by unfold okv; first | decide | omega)
            have fM14 : Fr (fun c => c = 97) M M14 := Fr.wr fr1 hM14 (by first | decide | omega | (dsimp only; omega))
            have q97_12_M14 : (M14 97 12 = M 97 12) := (show M14 97 12 = M1 97 12 by rw [hM14]; exact mu_ne _ _ (by first | decide | omega)).trans q97_12
            have q97_19_M14 : (M14 97 19 = M 97 19) := (show M14 97 19 = M1 97 19 by rw [hM14]; exact mu_ne _ _ (by first | decide | omega)).trans q97_19
            have q97_21_M14 : (M14 97 21 = M 97 21) := (show M14 97 21 = M1 97 21 by rw [hM14]; exact mu_ne _ _ (by first | decide | omega)).trans q97_21
            have q97_24_M14 : (M14 97 24 = M 97 24) := (show M14 97 24 = M1 97 24 by rw [hM14]; exact mu_ne _ _ (by first | decide | omega)).trans q97_24
            have q97_27_M14 : (M14 97 27 = M 97 27) := (show M14 97 27 = M1 97 27 by rw [hM14]; exact mu_ne _ _ (by first | decide | omega)).trans q97_27
            have q97_28_M14 : (M14 97 28 = M 97 28) := (show M14 97 28 = M1 97 28 by rw [hM14]; exact mu_ne _ _ (by first | decide | omega)).trans q97_28
            have q97_18_M14 : (M14 97 18 = M 97 18) := (show M14 97 18 = M1 97 18 by rw [hM14]; exact mu_ne _ _ (by first | decide | omega)).trans q97_18
            have wM14_97_13 : M14 97 13 = M1 97 13 := by rw [hM14]; exact mu_ne _ _ (by first | decide | omega)
            have wM14_97_14 : M14 97 14 = M1 97 14 := by rw [hM14]; exact mu_ne _ _ (by first | decide | omega)
            have wM14_97_15 : M14 97 15 = M1 97 15 := by rw [hM14]; exact mu_ne _ _ (by first | decide | omega)
            have xM14_97_16 : M14 97 16 = (-1) := by rw [hM14]; exact mu_at _ _ _ _
            refine g_aload_n (pc' := 231) 0 dX10_next_230 rfl rfl ?_
            refine g_dup (pc' := 232) dX10_next_231 rfl rfl ?_
            refine g_getI (pc' := 235) dX10_next_232 rfl f_X10_151 rfl rfl (fun v15 ev15 rv15 => ?_)
            refine g_iconst (pc' := 236) dX10_next_235 rfl ?_
            refine g_iadd (pc' := 237) dX10_next_236 rfl ?_
            refine g_putI (pc' := 240) dX10_next_237 rfl p_X10_151 rfl rfl ⟨by omega, by omega⟩ (fun M16 hM16 => ?_)
            have iM16 : IM M16 := IM.wr iM14 hM16 (by unfold okv; first | decide | omega)
            have fM16 : Fr (fun c => c = 97) M M16 := Fr.wr fM14 hM16 (by first | decide | omega | (dsimp only; omega))
            have q97_12_M16 : (M16 97 12 = M 97 12) := (show M16 97 12 = M14 97 12 by rw [hM16]; exact mu_ne _ _ (by first | decide | omega)).trans q97_12_M14
            have q97_19_M16 : (M16 97 19 = M 97 19) := (show M16 97 19 = M14 97 19 by rw [hM16]; exact mu_ne _ _ (by first | decide | omega)).trans q97_19_M14
            have q97_21_M16 : (M16 97 21 = M 97 21) := (show M16 97 21 = M14 97 21 by rw [hM16]; exact mu_ne _ _ (by first | decide | omega)).trans q97_21_M14
            have q97_24_M16 : (M16 97 24 = M 97 24) := (show M16 97 24 = M14 97 24 by rw [hM16]; exact mu_ne _ _ (by first | decide | omega)).trans q97_24_M14
            have q97_27_M16 : (M16 97 27 = M 97 27) := (show M16 97 27 = M14 97 27 by rw [hM16]; exact mu_ne _ _ (by first | decide | omega)).trans q97_27_M14
            have q97_28_M16 : (M16 97 28 = M 97 28) := (show M16 97 28 = M14 97 28 by rw [hM16]; exact mu_ne _ _ (by first | decide | omega)).trans q97_28_M14
            have q97_18_M16 : (M16 97 18 = M 97 18) := (show M16 97 18 = M14 97 18 by rw [hM16]; exact mu_ne _ _ (by first | decide | omega)).trans q97_18_M14
            have wM16_97_13 : M16 97 13 = M14 97 13 := by rw [hM16]; exact mu_ne _ _ (by first | decide | omega)
            have wM16_97_15 : M16 97 15 = M14 97 15 := by rw [hM16]; exact mu_ne _ _ (by first | decide | omega)
            have wM16_97_16 : M16 97 16 = M14 97 16 := by rw [hM16]; exact mu_ne _ _ (by first | decide | omega)
            have xM16_97_16 : M16 97 16 = (-1) := (show M16 97 16 = M14 97 16 by rw [hM16]; exact mu_ne _ _ (by first | decide | omega)).trans xM14_97_16
            have xM16_97_14 : M16 97 14 = v15 + 1 := by rw [hM16]; exact mu_at _ _ _ _
            refine g_goto (tgt := 149) dX10_next_240 rfl ?_
            refine g_sub [0] rfl ?_
            exact ih _ (by omega) M16 iM16 fM16 q97_12_M16 q97_19_M16 q97_21_M16 q97_24_M16 q97_27_M16 q97_28_M16 q97_18_M16 (by omega) (by omega) fv (by omega) (by unfold NXp at gp ⊢; unfold TT at tv7; omega) rfl
          · refine g_aload_n (pc' := 199) 0 dX10_next_198 rfl rfl ?_
            refine g_getL (pc' := 202) dX10_next_199 rfl f_X10_164 rfl rfl (fun v17 ev17 rv17 => ?_)
            refine g_ldc2 (pc' := 205) (v := 32) dX10_next_202 rfl k_X10_177 ?_
            refine g_lmul (pc' := 206) dX10_next_205 rfl ?_
            refine g_nrmL (fun n18 rn18 en18 => ?_)
            refine g_aload_n (pc' := 207) 0 dX10_next_206 rfl rfl ?_
            refine g_getR (pc' := 210) dX10_next_207 rfl f_X10_36 rfl rfl ?_
            refine g_aload_n (pc' := 211) 0 dX10_next_210 rfl rfl ?_
            refine g_getI (pc' := 214) dX10_next_211 rfl f_X10_151 rfl rfl (fun v19 ev19 rv19 => ?_)
            obtain rfl : v3 = v19 := ev3.trans ev19.symm
            refine g_iald (pc' := 215) dX10_next_214 rfl rfl (by omega) (by omega) (fun v20 ev20 rv20 => ?_)
            obtain rfl : v7 = v20 := ev7.trans ev20.symm
            refine g_i2l (pc' := 216) rv7 dX10_next_215 rfl ?_
            refine g_ladd (pc' := 217) dX10_next_216 rfl ?_
            refine g_nrmL (fun n21 rn21 en21 => ?_)
            refine g_ldc2 (pc' := 220) (v := 96) dX10_next_217 rfl k_X10_179 ?_
            refine g_lsub (pc' := 221) dX10_next_220 rfl ?_
            refine g_nrmL (fun n22 rn22 en22 => ?_)
            refine g_goto (tgt := 227) dX10_next_221 rfl ?_
            refine g_putL (pc' := 230) dX10_next_227 rfl p_X10_164 rfl rfl rn22 (fun M23 hM23 => ?_)
            have iM23 : IM M23 := IM.wr ic1 hM23 (by unfold okv; first | decide | omega)
            have fM23 : Fr (fun c => c = 97) M M23 := Fr.wr fr1 hM23 (by first | decide | omega | (dsimp only; omega))
            have q97_12_M23 : (M23 97 12 = M 97 12) := (show M23 97 12 = M1 97 12 by rw [hM23]; exact mu_ne _ _ (by first | decide | omega)).trans q97_12
            have q97_19_M23 : (M23 97 19 = M 97 19) := (show M23 97 19 = M1 97 19 by rw [hM23]; exact mu_ne _ _ (by first | decide | omega)).trans q97_19
            have q97_21_M23 : (M23 97 21 = M 97 21) := (show M23 97 21 = M1 97 21 by rw [hM23]; exact mu_ne _ _ (by first | decide | omega)).trans q97_21
            have q97_24_M23 : (M23 97 24 = M 97 24) := (show M23 97 24 = M1 97 24 by rw [hM23]; exact mu_ne _ _ (by first | decide | omega)).trans q97_24
            have q97_27_M23 : (M23 97 27 = M 97 27) := (show M23 97 27 = M1 97 27 by rw [hM23]; exact mu_ne _ _ (by first | decide | omega)).trans q97_27
            have q97_28_M23 : (M23 97 28 = M 97 28) := (show M23 97 28 = M1 97 28 by rw [hM23]; exact mu_ne _ _ (by first | decide | omega)).trans q97_28
            have q97_18_M23 : (M23 97 18 = M 97 18) := (show M23 97 18 = M1 97 18 by rw [hM23]; exact mu_ne _ _ (by first | decide | omega)).trans q97_18
            have wM23_97_13 : M23 97 13 = M1 97 13 := by rw [hM23]; exact mu_ne _ _ (by first | decide | omega)
            have wM23_97_14 : M23 97 14 = M1 97 14 := by rw [hM23]; exact mu_ne _ _ (by first | decide | omega)
            have wM23_97_15 : M23 97 15 = M1 97 15 := by rw [hM23]; exact mu_ne _ _ (by first | decide | omega)
            have xM23_97_16 : M23 97 16 = n22 := by rw [hM23]; exact mu_at _ _ _ _
            refine g_aload_n (pc' := 231) 0 dX10_next_230 rfl rfl ?_
            refine g_dup (pc' := 232) dX10_next_231 rfl rfl ?_
            refine g_getI (pc' := 235) dX10_next_232 rfl f_X10_151 rfl rfl (fun v24 ev24 rv24 => ?_)
            refine g_iconst (pc' := 236) dX10_next_235 rfl ?_
            refine g_iadd (pc' := 237) dX10_next_236 rfl ?_
            refine g_putI (pc' := 240) dX10_next_237 rfl p_X10_151 rfl rfl ⟨by omega, by omega⟩ (fun M25 hM25 => ?_)
            have iM25 : IM M25 := IM.wr iM23 hM25 (by unfold okv; first | decide | omega)
            have fM25 : Fr (fun c => c = 97) M M25 := Fr.wr fM23 hM25 (by first | decide | omega | (dsimp only; omega))
            have q97_12_M25 : (M25 97 12 = M 97 12) := (show M25 97 12 = M23 97 12 by rw [hM25]; exact mu_ne _ _ (by first | decide | omega)).trans q97_12_M23
            have q97_19_M25 : (M25 97 19 = M 97 19) := (show M25 97 19 = M23 97 19 by rw [hM25]; exact mu_ne _ _ (by first | decide | omega)).trans q97_19_M23
            have q97_21_M25 : (M25 97 21 = M 97 21) := (show M25 97 21 = M23 97 21 by rw [hM25]; exact mu_ne _ _ (by first | decide | omega)).trans q97_21_M23
            have q97_24_M25 : (M25 97 24 = M 97 24) := (show M25 97 24 = M23 97 24 by rw [hM25]; exact mu_ne _ _ (by first | decide | omega)).trans q97_24_M23
            have q97_27_M25 : (M25 97 27 = M 97 27) := (show M25 97 27 = M23 97 27 by rw [hM25]; exact mu_ne _ _ (by first | decide | omega)).trans q97_27_M23
            have q97_28_M25 : (M25 97 28 = M 97 28) := (show M25 97 28 = M23 97 28 by rw [hM25]; exact mu_ne _ _ (by first | decide | omega)).trans q97_28_M23
            have q97_18_M25 : (M25 97 18 = M 97 18) := (show M25 97 18 = M23 97 18 by rw [hM25]; exact mu_ne _ _ (by first | decide | omega)).trans q97_18_M23
            have wM25_97_13 : M25 97 13 = M23 97 13 := by rw [hM25]; exact mu_ne _ _ (by first | decide | omega)
            have wM25_97_15 : M25 97 15 = M23 97 15 := by rw [hM25]; exact mu_ne _ _ (by first | decide | omega)
            have wM25_97_16 : M25 97 16 = M23 97 16 := by rw [hM25]; exact mu_ne _ _ (by first | decide | omega)
            have xM25_97_16 : M25 97 16 = n22 := (show M25 97 16 = M23 97 16 by rw [hM25]; exact mu_ne _ _ (by first | decide | omega)).trans xM23_97_16
            have xM25_97_14 : M25 97 14 = v24 + 1 := by rw [hM25]; exact mu_at _ _ _ _
            refine g_goto (tgt := 149) dX10_next_240 rfl ?_
            refine g_sub [0] rfl ?_
            exact ih _ (by omega) M25 iM25 fM25 q97_12_M25 q97_19_M25 q97_21_M25 q97_24_M25 q97_27_M25 q97_28_M25 q97_18_M25 (by omega) (by omega) fv (by omega) (by unfold NXp at gp ⊢; unfold TT at tv7; omega) rfl
set_option maxHeartbeats 4000000 in
set_option maxRecDepth 100000 in
theorem j_X10_next_46 (X : Cx) (M : Mm) (hi : IM M) (h14 : 0 ≤ M 97 14 ∧ M 97 14 ≤ M 97 12)  (M1 : Mm) (ic1 : IM M1) (fr1 : Fr (fun c => c = 97) M M1) (q97_12 : (M1 97 12 = M 97 12)) (q97_19 : (M1 97 19 = M 97 19)) (q97_21 : (M1 97 21 = M 97 21)) (q97_24 : (M1 97 24 = M 97 24)) (q97_27 : (M1 97 27 = M 97 27)) (q97_28 : (M1 97 28 = M 97 28)) (q97_18 : (M1 97 18 = M 97 18)) (g1 : M 97 14 ≤ M1 97 13 ∧ M1 97 13 ≤ M1 97 12) : G X 1 RX10 cX10_next 1 none (Qv (fun M1 => IM M1 ∧ Fr (fun c => c = 97) M M1 ∧ M1 97 12 = M 97 12 ∧ M1 97 19 = M 97 19 ∧ M1 97 21 = M 97 21 ∧ M1 97 24 = M 97 24 ∧ M1 97 27 = M 97 27 ∧ M1 97 28 = M 97 28 ∧ M1 97 18 = M 97 18 ∧ (M 97 14 ≤ M1 97 13 ∧ (0 ≤ M1 97 13 ∧ M1 97 13 ≤ M1 97 14 ∧ M1 97 14 ≤ M1 97 12) ∧ (0 ≤ M1 97 15 ∧ M1 97 15 ≤ 3) ∧ (M1 97 15 ≠ 0 → M1 97 13 < M1 97 14) ∧ (M1 97 15 = 2 → 0 ≤ M1 97 16 ∧ M1 97 16 ≤ 10000009)))) 46 [(0, vr X 97)] [] M1 := by
  have p12 := hi.2.2.2.1
  obtain ⟨fv, hfv⟩ : ∃ z : Int, z = M1 97 13 := ⟨_, rfl⟩
  refine g_aload_n (pc' := 47) 0 dX10_next_46 rfl rfl ?_
  refine g_aload_n (pc' := 48) 0 dX10_next_47 rfl rfl ?_
  refine g_getI (pc' := 51) dX10_next_48 rfl f_X10_161 rfl rfl (fun v1 ev1 rv1 => ?_)
  refine g_putI (pc' := 54) dX10_next_51 rfl p_X10_151 rfl rfl rv1 (fun M2 hM2 => ?_)
  have iM2 : IM M2 := IM.wr ic1 hM2 (by unfold okv; first | decide | omega)
  have fM2 : Fr (fun c => c = 97) M M2 := Fr.wr fr1 hM2 (by first | decide | omega | (dsimp only; omega))
  have q97_12_M2 : (M2 97 12 = M 97 12) := (show M2 97 12 = M1 97 12 by rw [hM2]; exact mu_ne _ _ (by first | decide | omega)).trans q97_12
  have q97_19_M2 : (M2 97 19 = M 97 19) := (show M2 97 19 = M1 97 19 by rw [hM2]; exact mu_ne _ _ (by first | decide | omega)).trans q97_19
  have q97_21_M2 : (M2 97 21 = M 97 21) := (show M2 97 21 = M1 97 21 by rw [hM2]; exact mu_ne _ _ (by first | decide | omega)).trans q97_21
  have q97_24_M2 : (M2 97 24 = M 97 24) := (show M2 97 24 = M1 97 24 by rw [hM2]; exact mu_ne _ _ (by first | decide | omega)).trans q97_24
  have q97_27_M2 : (M2 97 27 = M 97 27) := (show M2 97 27 = M1 97 27 by rw [hM2]; exact mu_ne _ _ (by first | decide | omega)).trans q97_27
  have q97_28_M2 : (M2 97 28 = M 97 28) := (show M2 97 28 = M1 97 28 by rw [hM2]; exact mu_ne _ _ (by first | decide | omega)).trans q97_28
  have q97_18_M2 : (M2 97 18 = M 97 18) := (show M2 97 18 = M1 97 18 by rw [hM2]; exact mu_ne _ _ (by first | decide | omega)).trans q97_18
  have wM2_97_13 : M2 97 13 = M1 97 13 := by rw [hM2]; exact mu_ne _ _ (by first | decide | omega)
  have wM2_97_15 : M2 97 15 = M1 97 15 := by rw [hM2]; exact mu_ne _ _ (by first | decide | omega)
  have wM2_97_16 : M2 97 16 = M1 97 16 := by rw [hM2]; exact mu_ne _ _ (by first | decide | omega)
  have xM2_97_14 : M2 97 14 = v1 := by rw [hM2]; exact mu_at _ _ _ _
  refine g_aload_n (pc' := 55) 0 dX10_next_54 rfl rfl ?_
  refine g_lconst (pc' := 56) (v := 0) dX10_next_55 rfl (by decide) ?_
  refine g_putL (pc' := 59) dX10_next_56 rfl p_X10_164 rfl rfl (by decide) (fun M3 hM3 => ?_)
  have iM3 : IM M3 := IM.wr iM2 hM3 (by unfold okv; first | decide | omega)
  have fM3 : Fr (fun c => c = 97) M M3 := Fr.wr fM2 hM3 (by first | decide | omega | (dsimp only; omega))
  have q97_12_M3 : (M3 97 12 = M 97 12) := (show M3 97 12 = M2 97 12 by rw [hM3]; exact mu_ne _ _ (by first | decide | omega)).trans q97_12_M2
  have q97_19_M3 : (M3 97 19 = M 97 19) := (show M3 97 19 = M2 97 19 by rw [hM3]; exact mu_ne _ _ (by first | decide | omega)).trans q97_19_M2
  have q97_21_M3 : (M3 97 21 = M 97 21) := (show M3 97 21 = M2 97 21 by rw [hM3]; exact mu_ne _ _ (by first | decide | omega)).trans q97_21_M2
  have q97_24_M3 : (M3 97 24 = M 97 24) := (show M3 97 24 = M2 97 24 by rw [hM3]; exact mu_ne _ _ (by first | decide | omega)).trans q97_24_M2
  have q97_27_M3 : (M3 97 27 = M 97 27) := (show M3 97 27 = M2 97 27 by rw [hM3]; exact mu_ne _ _ (by first | decide | omega)).trans q97_27_M2
  have q97_28_M3 : (M3 97 28 = M 97 28) := (show M3 97 28 = M2 97 28 by rw [hM3]; exact mu_ne _ _ (by first | decide | omega)).trans q97_28_M2
  have q97_18_M3 : (M3 97 18 = M 97 18) := (show M3 97 18 = M2 97 18 by rw [hM3]; exact mu_ne _ _ (by first | decide | omega)).trans q97_18_M2
  have wM3_97_13 : M3 97 13 = M2 97 13 := by rw [hM3]; exact mu_ne _ _ (by first | decide | omega)
  have wM3_97_14 : M3 97 14 = M2 97 14 := by rw [hM3]; exact mu_ne _ _ (by first | decide | omega)
  have wM3_97_15 : M3 97 15 = M2 97 15 := by rw [hM3]; exact mu_ne _ _ (by first | decide | omega)
  have xM3_97_14 : M3 97 14 = v1 := (show M3 97 14 = M2 97 14 by rw [hM3]; exact mu_ne _ _ (by first | decide | omega)).trans xM2_97_14
  have xM3_97_16 : M3 97 16 = 0 := by rw [hM3]; exact mu_at _ _ _ _
  refine g_aload_n (pc' := 60) 0 dX10_next_59 rfl rfl ?_
  refine g_aload_n (pc' := 61) 0 dX10_next_60 rfl rfl ?_
  refine g_getI (pc' := 64) dX10_next_61 rfl f_X10_161 rfl rfl (fun v4 ev4 rv4 => ?_)
  refine g_aload_n (pc' := 65) 0 dX10_next_64 rfl rfl ?_
  refine g_getI (pc' := 68) dX10_next_65 rfl f_X10_142 rfl rfl (fun v5 ev5 rv5 => ?_)
  have bv5 : 0 ≤ v5 ∧ v5 ≤ 400 := by rw [ev5]; exact iM3.2.2.2.1
  have av5 : v5 = M 97 12 := ev5.trans q97_12_M3
  refine g_ic_ne (pc' := 71) (tgt := 75) rv4 rv5 dX10_next_68 rfl rfl (fun c6 => ?_) (fun c6 => ?_)
  · refine g_aload_n (pc' := 76) 0 dX10_next_75 rfl rfl ?_
    refine g_getR (pc' := 79) dX10_next_76 rfl f_X10_36 rfl rfl ?_
    refine g_aload_n (pc' := 80) 0 dX10_next_79 rfl rfl ?_
    refine g_getI (pc' := 83) dX10_next_80 rfl f_X10_161 rfl rfl (fun v7 ev7 rv7 => ?_)
    obtain rfl : v4 = v7 := ev4.trans ev7.symm
    refine g_iald (pc' := 84) dX10_next_83 rfl rfl (by omega) (by omega) (fun v8 ev8 rv8 => ?_)
    have tv8 : TT v4 fv v8 (M 106 fv.toNat) := fun z => by rw [ev8, fM3 106 (by decide), z]
    refine g_callSip (pc' := 87) (As := [vi v8]) (S := [vr X 97]) dX10_next_84 rfl m_X10_168 w_X10_isSmall (c_X10_isSmall X M3 v8 rv8) rfl (by decide) (by decide) rfl (Nat.le_of_ble_eq_true rfl) (fun z10 q9 => ?_)
    refine g_if_eq (pc' := 90) (tgt := 94) ⟨by omega, by omega⟩ dX10_next_87 rfl rfl (fun c11 => ?_) (fun c11 => ?_)
    · replace q9 := q9.resolve_left (fun h => absurd (c11.symm.trans h.1) (by decide))
      refine g_aload_n (pc' := 95) 0 dX10_next_94 rfl rfl ?_
      refine g_getR (pc' := 98) dX10_next_95 rfl f_X10_36 rfl rfl ?_
      refine g_aload_n (pc' := 99) 0 dX10_next_98 rfl rfl ?_
      refine g_getI (pc' := 102) dX10_next_99 rfl f_X10_161 rfl rfl (fun v12 ev12 rv12 => ?_)
      obtain rfl : v4 = v12 := ev4.trans ev12.symm
      refine g_iald (pc' := 103) dX10_next_102 rfl rfl (by omega) (by omega) (fun v13 ev13 rv13 => ?_)
      obtain rfl : v8 = v13 := ev8.trans ev13.symm
      refine g_callSip (pc' := 106) (As := [vi v8]) (S := [vr X 97]) dX10_next_103 rfl m_X10_171 w_X10_isDigit (c_X10_isDigit X M3 v8 rv8) rfl (by decide) (by decide) rfl (Nat.le_of_ble_eq_true rfl) (fun z15 q14 => ?_)
      refine g_if_eq (pc' := 109) (tgt := 113) ⟨by omega, by omega⟩ dX10_next_106 rfl rfl (fun c16 => ?_) (fun c16 => ?_)
      · replace q14 := q14.resolve_left (fun h => absurd (c16.symm.trans h.1) (by decide))
        refine g_iconst (pc' := 114) dX10_next_113 rfl ?_
        refine g_putI (pc' := 117) dX10_next_114 rfl p_X10_174 rfl rfl (by decide) (fun M17 hM17 => ?_)
        have iM17 : IM M17 := IM.wr iM3 hM17 (by unfold okv; first | decide | omega)
        have fM17 : Fr (fun c => c = 97) M M17 := Fr.wr fM3 hM17 (by first | decide | omega | (dsimp only; omega))
        have q97_12_M17 : (M17 97 12 = M 97 12) := (show M17 97 12 = M3 97 12 by rw [hM17]; exact mu_ne _ _ (by first | decide | omega)).trans q97_12_M3
        have q97_19_M17 : (M17 97 19 = M 97 19) := (show M17 97 19 = M3 97 19 by rw [hM17]; exact mu_ne _ _ (by first | decide | omega)).trans q97_19_M3
        have q97_21_M17 : (M17 97 21 = M 97 21) := (show M17 97 21 = M3 97 21 by rw [hM17]; exact mu_ne _ _ (by first | decide | omega)).trans q97_21_M3
        have q97_24_M17 : (M17 97 24 = M 97 24) := (show M17 97 24 = M3 97 24 by rw [hM17]; exact mu_ne _ _ (by first | decide | omega)).trans q97_24_M3
        have q97_27_M17 : (M17 97 27 = M 97 27) := (show M17 97 27 = M3 97 27 by rw [hM17]; exact mu_ne _ _ (by first | decide | omega)).trans q97_27_M3
        have q97_28_M17 : (M17 97 28 = M 97 28) := (show M17 97 28 = M3 97 28 by rw [hM17]; exact mu_ne _ _ (by first | decide | omega)).trans q97_28_M3
        have q97_18_M17 : (M17 97 18 = M 97 18) := (show M17 97 18 = M3 97 18 by rw [hM17]; exact mu_ne _ _ (by first | decide | omega)).trans q97_18_M3
        have wM17_97_13 : M17 97 13 = M3 97 13 := by rw [hM17]; exact mu_ne _ _ (by first | decide | omega)
        have wM17_97_14 : M17 97 14 = M3 97 14 := by rw [hM17]; exact mu_ne _ _ (by first | decide | omega)
        have wM17_97_16 : M17 97 16 = M3 97 16 := by rw [hM17]; exact mu_ne _ _ (by first | decide | omega)
        have xM17_97_14 : M17 97 14 = v1 := (show M17 97 14 = M3 97 14 by rw [hM17]; exact mu_ne _ _ (by first | decide | omega)).trans xM3_97_14
        have xM17_97_16 : M17 97 16 = 0 := (show M17 97 16 = M3 97 16 by rw [hM17]; exact mu_ne _ _ (by first | decide | omega)).trans xM3_97_16
        have xM17_97_15 : M17 97 15 = 3 := by rw [hM17]; exact mu_at _ _ _ _
        refine g_aload_n (pc' := 118) 0 dX10_next_117 rfl rfl ?_
        refine g_getI (pc' := 121) dX10_next_118 rfl f_X10_174 rfl rfl (fun v18 ev18 rv18 => ?_)
        have yv18 : v18 = 3 := ev18.trans xM17_97_15
        subst yv18
        refine g_iconst (pc' := 122) dX10_next_121 rfl ?_
        refine g_ic_ne (pc' := 125) (tgt := 149) (by decide) (by decide) dX10_next_122 rfl rfl (fun c19 => ?_) (fun c19 => ?_)
        · exact absurd c19 (by omega)
        · refine g_aload_n (pc' := 126) 0 dX10_next_125 rfl rfl ?_
          refine g_aload_n (pc' := 127) 0 dX10_next_126 rfl rfl ?_
          refine g_getR (pc' := 130) dX10_next_127 rfl f_X10_36 rfl rfl ?_
          refine g_aload_n (pc' := 131) 0 dX10_next_130 rfl rfl ?_
          refine g_getI (pc' := 134) dX10_next_131 rfl f_X10_161 rfl rfl (fun v20 ev20 rv20 => ?_)
          refine g_iald (pc' := 135) dX10_next_134 rfl rfl (by omega) (by omega) (fun v21 ev21 rv21 => ?_)
          have tv21 : TT v20 fv v21 (M 106 fv.toNat) := fun z => by rw [ev21, fM17 106 (by decide), z]
          refine g_i2l (pc' := 136) rv21 dX10_next_135 rfl ?_
          refine g_putL (pc' := 139) dX10_next_136 rfl p_X10_164 rfl rfl ⟨by omega, by omega⟩ (fun M22 hM22 => ?_)
          have iM22 : IM M22 := IM.wr iM17 hM22 (by unfold okv; first | decide | omega)
          have fM22 : Fr (fun c => c = 97) M M22 := Fr.wr fM17 hM22 (by first | decide | omega | (dsimp only; omega))
          have q97_12_M22 : (M22 97 12 = M 97 12) := (show M22 97 12 = M17 97 12 by rw [hM22]; exact mu_ne _ _ (by first | decide | omega)).trans q97_12_M17
          have q97_19_M22 : (M22 97 19 = M 97 19) := (show M22 97 19 = M17 97 19 by rw [hM22]; exact mu_ne _ _ (by first | decide | omega)).trans q97_19_M17
          have q97_21_M22 : (M22 97 21 = M 97 21) := (show M22 97 21 = M17 97 21 by rw [hM22]; exact mu_ne _ _ (by first | decide | omega)).trans q97_21_M17
          have q97_24_M22 : (M22 97 24 = M 97 24) := (show M22 97 24 = M17 97 24 by rw [hM22]; exact mu_ne _ _ (by first | decide | omega)).trans q97_24_M17
          have q97_27_M22 : (M22 97 27 = M 97 27) := (show M22 97 27 = M17 97 27 by rw [hM22]; exact mu_ne _ _ (by first | decide | omega)).trans q97_27_M17
          have q97_28_M22 : (M22 97 28 = M 97 28) := (show M22 97 28 = M17 97 28 by rw [hM22]; exact mu_ne _ _ (by first | decide | omega)).trans q97_28_M17
          have q97_18_M22 : (M22 97 18 = M 97 18) := (show M22 97 18 = M17 97 18 by rw [hM22]; exact mu_ne _ _ (by first | decide | omega)).trans q97_18_M17
          have wM22_97_13 : M22 97 13 = M17 97 13 := by rw [hM22]; exact mu_ne _ _ (by first | decide | omega)
          have wM22_97_14 : M22 97 14 = M17 97 14 := by rw [hM22]; exact mu_ne _ _ (by first | decide | omega)
          have wM22_97_15 : M22 97 15 = M17 97 15 := by rw [hM22]; exact mu_ne _ _ (by first | decide | omega)
          have xM22_97_14 : M22 97 14 = v1 := (show M22 97 14 = M17 97 14 by rw [hM22]; exact mu_ne _ _ (by first | decide | omega)).trans xM17_97_14
          have xM22_97_15 : M22 97 15 = 3 := (show M22 97 15 = M17 97 15 by rw [hM22]; exact mu_ne _ _ (by first | decide | omega)).trans xM17_97_15
          have xM22_97_16 : M22 97 16 = v21 := by rw [hM22]; exact mu_at _ _ _ _
          refine g_aload_n (pc' := 140) 0 dX10_next_139 rfl rfl ?_
          refine g_dup (pc' := 141) dX10_next_140 rfl rfl ?_
          refine g_getI (pc' := 144) dX10_next_141 rfl f_X10_151 rfl rfl (fun v23 ev23 rv23 => ?_)
          have yv23 : v23 = v1 := ev23.trans xM22_97_14
          refine g_iconst (pc' := 145) dX10_next_144 rfl ?_
          refine g_iadd (pc' := 146) dX10_next_145 rfl ?_
          refine g_putI (pc' := 149) dX10_next_146 rfl p_X10_151 rfl rfl ⟨by omega, by omega⟩ (fun M24 hM24 => ?_)
          have iM24 : IM M24 := IM.wr iM22 hM24 (by unfold okv; first | decide | omega)
          have fM24 : Fr (fun c => c = 97) M M24 := Fr.wr fM22 hM24 (by first | decide | omega | (dsimp only; omega))
          have q97_12_M24 : (M24 97 12 = M 97 12) := (show M24 97 12 = M22 97 12 by rw [hM24]; exact mu_ne _ _ (by first | decide | omega)).trans q97_12_M22
          have q97_19_M24 : (M24 97 19 = M 97 19) := (show M24 97 19 = M22 97 19 by rw [hM24]; exact mu_ne _ _ (by first | decide | omega)).trans q97_19_M22
          have q97_21_M24 : (M24 97 21 = M 97 21) := (show M24 97 21 = M22 97 21 by rw [hM24]; exact mu_ne _ _ (by first | decide | omega)).trans q97_21_M22
          have q97_24_M24 : (M24 97 24 = M 97 24) := (show M24 97 24 = M22 97 24 by rw [hM24]; exact mu_ne _ _ (by first | decide | omega)).trans q97_24_M22
          have q97_27_M24 : (M24 97 27 = M 97 27) := (show M24 97 27 = M22 97 27 by rw [hM24]; exact mu_ne _ _ (by first | decide | omega)).trans q97_27_M22
          have q97_28_M24 : (M24 97 28 = M 97 28) := (show M24 97 28 = M22 97 28 by rw [hM24]; exact mu_ne _ _ (by first | decide | omega)).trans q97_28_M22
          have q97_18_M24 : (M24 97 18 = M 97 18) := (show M24 97 18 = M22 97 18 by rw [hM24]; exact mu_ne _ _ (by first | decide | omega)).trans q97_18_M22
          have wM24_97_13 : M24 97 13 = M22 97 13 := by rw [hM24]; exact mu_ne _ _ (by first | decide | omega)
          have wM24_97_15 : M24 97 15 = M22 97 15 := by rw [hM24]; exact mu_ne _ _ (by first | decide | omega)
          have wM24_97_16 : M24 97 16 = M22 97 16 := by rw [hM24]; exact mu_ne _ _ (by first | decide | omega)
          have xM24_97_15 : M24 97 15 = 3 := (show M24 97 15 = M22 97 15 by rw [hM24]; exact mu_ne _ _ (by first | decide | omega)).trans xM22_97_15
          have xM24_97_16 : M24 97 16 = v21 := (show M24 97 16 = M22 97 16 by rw [hM24]; exact mu_ne _ _ (by first | decide | omega)).trans xM22_97_16
          have xM24_97_14 : M24 97 14 = v23 + 1 := by rw [hM24]; exact mu_at _ _ _ _
          refine g_sub [0] rfl ?_
          exact l_X10_next_149 X M hi h14 _ M24 iM24 fM24 q97_12_M24 q97_19_M24 q97_21_M24 q97_24_M24 q97_27_M24 q97_28_M24 q97_18_M24 (by omega) (by omega) fv (by omega) (by unfold NXp; unfold TT at tv8 tv21; omega) rfl
      · replace q14 := q14.resolve_right (fun h => c16 h.1)
        refine g_iconst (pc' := 110) dX10_next_109 rfl ?_
        refine g_goto (tgt := 114) dX10_next_110 rfl ?_
        refine g_putI (pc' := 117) dX10_next_114 rfl p_X10_174 rfl rfl (by decide) (fun M25 hM25 => ?_)
        have iM25 : IM M25 := IM.wr iM3 hM25 (by unfold okv; first | decide | omega)
        have fM25 : Fr (fun c => c = 97) M M25 := Fr.wr fM3 hM25 (by first | decide | omega | (dsimp only; omega))
        have q97_12_M25 : (M25 97 12 = M 97 12) := (show M25 97 12 = M3 97 12 by rw [hM25]; exact mu_ne _ _ (by first | decide | omega)).trans q97_12_M3
        have q97_19_M25 : (M25 97 19 = M 97 19) := (show M25 97 19 = M3 97 19 by rw [hM25]; exact mu_ne _ _ (by first | decide | omega)).trans q97_19_M3
        have q97_21_M25 : (M25 97 21 = M 97 21) := (show M25 97 21 = M3 97 21 by rw [hM25]; exact mu_ne _ _ (by first | decide | omega)).trans q97_21_M3
        have q97_24_M25 : (M25 97 24 = M 97 24) := (show M25 97 24 = M3 97 24 by rw [hM25]; exact mu_ne _ _ (by first | decide | omega)).trans q97_24_M3
        have q97_27_M25 : (M25 97 27 = M 97 27) := (show M25 97 27 = M3 97 27 by rw [hM25]; exact mu_ne _ _ (by first | decide | omega)).trans q97_27_M3
        have q97_28_M25 : (M25 97 28 = M 97 28) := (show M25 97 28 = M3 97 28 by rw [hM25]; exact mu_ne _ _ (by first | decide | omega)).trans q97_28_M3
        have q97_18_M25 : (M25 97 18 = M 97 18) := (show M25 97 18 = M3 97 18 by rw [hM25]; exact mu_ne _ _ (by first | decide | omega)).trans q97_18_M3
        have wM25_97_13 : M25 97 13 = M3 97 13 := by rw [hM25]; exact mu_ne _ _ (by first | decide | omega)
        have wM25_97_14 : M25 97 14 = M3 97 14 := by rw [hM25]; exact mu_ne _ _ (by first | decide | omega)
        have wM25_97_16 : M25 97 16 = M3 97 16 := by rw [hM25]; exact mu_ne _ _ (by first | decide | omega)
        have xM25_97_14 : M25 97 14 = v1 := (show M25 97 14 = M3 97 14 by rw [hM25]; exact mu_ne _ _ (by first | decide | omega)).trans xM3_97_14
        have xM25_97_16 : M25 97 16 = 0 := (show M25 97 16 = M3 97 16 by rw [hM25]; exact mu_ne _ _ (by first | decide | omega)).trans xM3_97_16
        have xM25_97_15 : M25 97 15 = 2 := by rw [hM25]; exact mu_at _ _ _ _
        refine g_aload_n (pc' := 118) 0 dX10_next_117 rfl rfl ?_
        refine g_getI (pc' := 121) dX10_next_118 rfl f_X10_174 rfl rfl (fun v26 ev26 rv26 => ?_)
        have yv26 : v26 = 2 := ev26.trans xM25_97_15
        subst yv26
        refine g_iconst (pc' := 122) dX10_next_121 rfl ?_
        refine g_ic_ne (pc' := 125) (tgt := 149) (by decide) (by decide) dX10_next_122 rfl rfl (fun c27 => ?_) (fun c27 => ?_)
        · refine g_sub [0] rfl ?_
          exact l_X10_next_149 X M hi h14 _ M25 iM25 fM25 q97_12_M25 q97_19_M25 q97_21_M25 q97_24_M25 q97_27_M25 q97_28_M25 q97_18_M25 (by omega) (by omega) fv (by omega) (by unfold NXp; unfold TT at tv8; omega) rfl
        · exact absurd c27 (by omega)
    · replace q9 := q9.resolve_right (fun h => c11 h.1)
      refine g_iconst (pc' := 91) dX10_next_90 rfl ?_
      refine g_goto (tgt := 114) dX10_next_91 rfl ?_
      refine g_putI (pc' := 117) dX10_next_114 rfl p_X10_174 rfl rfl (by decide) (fun M28 hM28 => ?_)
      have iM28 : IM M28 := IM.wr iM3 hM28 (by unfold okv; first | decide | omega)
      have fM28 : Fr (fun c => c = 97) M M28 := Fr.wr fM3 hM28 (by first | decide | omega | (dsimp only; omega))
      have q97_12_M28 : (M28 97 12 = M 97 12) := (show M28 97 12 = M3 97 12 by rw [hM28]; exact mu_ne _ _ (by first | decide | omega)).trans q97_12_M3
      have q97_19_M28 : (M28 97 19 = M 97 19) := (show M28 97 19 = M3 97 19 by rw [hM28]; exact mu_ne _ _ (by first | decide | omega)).trans q97_19_M3
      have q97_21_M28 : (M28 97 21 = M 97 21) := (show M28 97 21 = M3 97 21 by rw [hM28]; exact mu_ne _ _ (by first | decide | omega)).trans q97_21_M3
      have q97_24_M28 : (M28 97 24 = M 97 24) := (show M28 97 24 = M3 97 24 by rw [hM28]; exact mu_ne _ _ (by first | decide | omega)).trans q97_24_M3
      have q97_27_M28 : (M28 97 27 = M 97 27) := (show M28 97 27 = M3 97 27 by rw [hM28]; exact mu_ne _ _ (by first | decide | omega)).trans q97_27_M3
      have q97_28_M28 : (M28 97 28 = M 97 28) := (show M28 97 28 = M3 97 28 by rw [hM28]; exact mu_ne _ _ (by first | decide | omega)).trans q97_28_M3
      have q97_18_M28 : (M28 97 18 = M 97 18) := (show M28 97 18 = M3 97 18 by rw [hM28]; exact mu_ne _ _ (by first | decide | omega)).trans q97_18_M3
      have wM28_97_13 : M28 97 13 = M3 97 13 := by rw [hM28]; exact mu_ne _ _ (by first | decide | omega)
      have wM28_97_14 : M28 97 14 = M3 97 14 := by rw [hM28]; exact mu_ne _ _ (by first | decide | omega)
      have wM28_97_16 : M28 97 16 = M3 97 16 := by rw [hM28]; exact mu_ne _ _ (by first | decide | omega)
      have xM28_97_14 : M28 97 14 = v1 := (show M28 97 14 = M3 97 14 by rw [hM28]; exact mu_ne _ _ (by first | decide | omega)).trans xM3_97_14
      have xM28_97_16 : M28 97 16 = 0 := (show M28 97 16 = M3 97 16 by rw [hM28]; exact mu_ne _ _ (by first | decide | omega)).trans xM3_97_16
      have xM28_97_15 : M28 97 15 = 1 := by rw [hM28]; exact mu_at _ _ _ _
      refine g_aload_n (pc' := 118) 0 dX10_next_117 rfl rfl ?_
      refine g_getI (pc' := 121) dX10_next_118 rfl f_X10_174 rfl rfl (fun v29 ev29 rv29 => ?_)
      have yv29 : v29 = 1 := ev29.trans xM28_97_15
      subst yv29
      refine g_iconst (pc' := 122) dX10_next_121 rfl ?_
      refine g_ic_ne (pc' := 125) (tgt := 149) (by decide) (by decide) dX10_next_122 rfl rfl (fun c30 => ?_) (fun c30 => ?_)
      · refine g_sub [0] rfl ?_
        exact l_X10_next_149 X M hi h14 _ M28 iM28 fM28 q97_12_M28 q97_19_M28 q97_21_M28 q97_24_M28 q97_27_M28 q97_28_M28 q97_18_M28 (by omega) (by omega) fv (by omega) (by unfold NXp; unfold TT at tv8; omega) rfl
      · exact absurd c30 (by omega)
  · refine g_iconst (pc' := 72) dX10_next_71 rfl ?_
    refine g_goto (tgt := 114) dX10_next_72 rfl ?_
    refine g_putI (pc' := 117) dX10_next_114 rfl p_X10_174 rfl rfl (by decide) (fun M31 hM31 => ?_)
    have iM31 : IM M31 := IM.wr iM3 hM31 (by unfold okv; first | decide | omega)
    have fM31 : Fr (fun c => c = 97) M M31 := Fr.wr fM3 hM31 (by first | decide | omega | (dsimp only; omega))
    have q97_12_M31 : (M31 97 12 = M 97 12) := (show M31 97 12 = M3 97 12 by rw [hM31]; exact mu_ne _ _ (by first | decide | omega)).trans q97_12_M3
    have q97_19_M31 : (M31 97 19 = M 97 19) := (show M31 97 19 = M3 97 19 by rw [hM31]; exact mu_ne _ _ (by first | decide | omega)).trans q97_19_M3
    have q97_21_M31 : (M31 97 21 = M 97 21) := (show M31 97 21 = M3 97 21 by rw [hM31]; exact mu_ne _ _ (by first | decide | omega)).trans q97_21_M3
    have q97_24_M31 : (M31 97 24 = M 97 24) := (show M31 97 24 = M3 97 24 by rw [hM31]; exact mu_ne _ _ (by first | decide | omega)).trans q97_24_M3
    have q97_27_M31 : (M31 97 27 = M 97 27) := (show M31 97 27 = M3 97 27 by rw [hM31]; exact mu_ne _ _ (by first | decide | omega)).trans q97_27_M3
    have q97_28_M31 : (M31 97 28 = M 97 28) := (show M31 97 28 = M3 97 28 by rw [hM31]; exact mu_ne _ _ (by first | decide | omega)).trans q97_28_M3
    have q97_18_M31 : (M31 97 18 = M 97 18) := (show M31 97 18 = M3 97 18 by rw [hM31]; exact mu_ne _ _ (by first | decide | omega)).trans q97_18_M3
    have wM31_97_13 : M31 97 13 = M3 97 13 := by rw [hM31]; exact mu_ne _ _ (by first | decide | omega)
    have wM31_97_14 : M31 97 14 = M3 97 14 := by rw [hM31]; exact mu_ne _ _ (by first | decide | omega)
    have wM31_97_16 : M31 97 16 = M3 97 16 := by rw [hM31]; exact mu_ne _ _ (by first | decide | omega)
    have xM31_97_14 : M31 97 14 = v1 := (show M31 97 14 = M3 97 14 by rw [hM31]; exact mu_ne _ _ (by first | decide | omega)).trans xM3_97_14
    have xM31_97_16 : M31 97 16 = 0 := (show M31 97 16 = M3 97 16 by rw [hM31]; exact mu_ne _ _ (by first | decide | omega)).trans xM3_97_16
    have xM31_97_15 : M31 97 15 = 0 := by rw [hM31]; exact mu_at _ _ _ _
    refine g_aload_n (pc' := 118) 0 dX10_next_117 rfl rfl ?_
    refine g_getI (pc' := 121) dX10_next_118 rfl f_X10_174 rfl rfl (fun v32 ev32 rv32 => ?_)
    have yv32 : v32 = 0 := ev32.trans xM31_97_15
    subst yv32
    refine g_iconst (pc' := 122) dX10_next_121 rfl ?_
    refine g_ic_ne (pc' := 125) (tgt := 149) (by decide) (by decide) dX10_next_122 rfl rfl (fun c33 => ?_) (fun c33 => ?_)
    · refine g_sub [0] rfl ?_
      exact l_X10_next_149 X M hi h14 _ M31 iM31 fM31 q97_12_M31 q97_19_M31 q97_21_M31 q97_24_M31 q97_27_M31 q97_28_M31 q97_18_M31 (by omega) (by omega) fv (by omega) (by unfold NXp; omega) rfl
    · exact absurd c33 (by omega)
set_option maxHeartbeats 4000000 in
set_option maxRecDepth 100000 in
theorem l_X10_next_8 (X : Cx) (M : Mm) (hi : IM M) (h14 : 0 ≤ M 97 14 ∧ M 97 14 ≤ M 97 12) : ∀ (kk : Nat)  (M1 : Mm) (ic1 : IM M1) (fr1 : Fr (fun c => c = 97) M M1) (q97_12 : (M1 97 12 = M 97 12)) (q97_19 : (M1 97 19 = M 97 19)) (q97_21 : (M1 97 21 = M 97 21)) (q97_24 : (M1 97 24 = M 97 24)) (q97_27 : (M1 97 27 = M 97 27)) (q97_28 : (M1 97 28 = M 97 28)) (q97_18 : (M1 97 18 = M 97 18)) (g1 : M 97 14 ≤ M1 97 13 ∧ M1 97 13 ≤ M1 97 12), (M1 97 12 - M1 97 13).toNat = kk → G X 1 RX10 cX10_next 1 none (Qv (fun M1 => IM M1 ∧ Fr (fun c => c = 97) M M1 ∧ M1 97 12 = M 97 12 ∧ M1 97 19 = M 97 19 ∧ M1 97 21 = M 97 21 ∧ M1 97 24 = M 97 24 ∧ M1 97 27 = M 97 27 ∧ M1 97 28 = M 97 28 ∧ M1 97 18 = M 97 18 ∧ (M 97 14 ≤ M1 97 13 ∧ (0 ≤ M1 97 13 ∧ M1 97 13 ≤ M1 97 14 ∧ M1 97 14 ≤ M1 97 12) ∧ (0 ≤ M1 97 15 ∧ M1 97 15 ≤ 3) ∧ (M1 97 15 ≠ 0 → M1 97 13 < M1 97 14) ∧ (M1 97 15 = 2 → 0 ≤ M1 97 16 ∧ M1 97 16 ≤ 10000009)))) 8 [(0, vr X 97)] [] M1 := by
  intro kk
  induction kk using Nat.strongRecOn with
  | ind kk ih =>
    intro M1 ic1 fr1 q97_12 q97_19 q97_21 q97_24 q97_27 q97_28 q97_18 g1 hmes
    have p12 := hi.2.2.2.1
    refine g_aload_n (pc' := 9) 0 dX10_next_8 rfl rfl ?_
    refine g_getI (pc' := 12) dX10_next_9 rfl f_X10_161 rfl rfl (fun v1 ev1 rv1 => ?_)
    refine g_aload_n (pc' := 13) 0 dX10_next_12 rfl rfl ?_
    refine g_getI (pc' := 16) dX10_next_13 rfl f_X10_142 rfl rfl (fun v2 ev2 rv2 => ?_)
    have bv2 : 0 ≤ v2 ∧ v2 ≤ 400 := by rw [ev2]; exact ic1.2.2.2.1
    have av2 : v2 = M 97 12 := ev2.trans q97_12
    refine g_ic_ge (pc' := 19) (tgt := 46) rv1 rv2 dX10_next_16 rfl rfl (fun c3 => ?_) (fun c3 => ?_)
    · refine g_sub [0] rfl ?_
      exact j_X10_next_46 X M hi h14 M1 ic1 fr1 q97_12 q97_19 q97_21 q97_24 q97_27 q97_28 q97_18 (by omega)
    · refine g_aload_n (pc' := 20) 0 dX10_next_19 rfl rfl ?_
      refine g_getR (pc' := 23) dX10_next_20 rfl f_X10_36 rfl rfl ?_
      refine g_aload_n (pc' := 24) 0 dX10_next_23 rfl rfl ?_
      refine g_getI (pc' := 27) dX10_next_24 rfl f_X10_161 rfl rfl (fun v4 ev4 rv4 => ?_)
      obtain rfl : v1 = v4 := ev1.trans ev4.symm
      refine g_iald (pc' := 28) dX10_next_27 rfl rfl (by omega) (by omega) (fun v5 ev5 rv5 => ?_)
      refine g_bipush (pc' := 30) (v := 32) dX10_next_28 rfl (by decide) ?_
      refine g_ic_ne (pc' := 33) (tgt := 46) rv5 (by decide) dX10_next_30 rfl rfl (fun c6 => ?_) (fun c6 => ?_)
      · refine g_sub [0] rfl ?_
        exact j_X10_next_46 X M hi h14 M1 ic1 fr1 q97_12 q97_19 q97_21 q97_24 q97_27 q97_28 q97_18 (by omega)
      · refine g_aload_n (pc' := 34) 0 dX10_next_33 rfl rfl ?_
        refine g_dup (pc' := 35) dX10_next_34 rfl rfl ?_
        refine g_getI (pc' := 38) dX10_next_35 rfl f_X10_161 rfl rfl (fun v7 ev7 rv7 => ?_)
        obtain rfl : v1 = v7 := ev1.trans ev7.symm
        refine g_iconst (pc' := 39) dX10_next_38 rfl ?_
        refine g_iadd (pc' := 40) dX10_next_39 rfl ?_
        refine g_putI (pc' := 43) dX10_next_40 rfl p_X10_161 rfl rfl ⟨by omega, by omega⟩ (fun M8 hM8 => ?_)
        have iM8 : IM M8 := IM.wr ic1 hM8 (by unfold okv; first | decide | omega)
        have fM8 : Fr (fun c => c = 97) M M8 := Fr.wr fr1 hM8 (by first | decide | omega | (dsimp only; omega))
        have q97_12_M8 : (M8 97 12 = M 97 12) := (show M8 97 12 = M1 97 12 by rw [hM8]; exact mu_ne _ _ (by first | decide | omega)).trans q97_12
        have q97_19_M8 : (M8 97 19 = M 97 19) := (show M8 97 19 = M1 97 19 by rw [hM8]; exact mu_ne _ _ (by first | decide | omega)).trans q97_19
        have q97_21_M8 : (M8 97 21 = M 97 21) := (show M8 97 21 = M1 97 21 by rw [hM8]; exact mu_ne _ _ (by first | decide | omega)).trans q97_21
        have q97_24_M8 : (M8 97 24 = M 97 24) := (show M8 97 24 = M1 97 24 by rw [hM8]; exact mu_ne _ _ (by first | decide | omega)).trans q97_24
        have q97_27_M8 : (M8 97 27 = M 97 27) := (show M8 97 27 = M1 97 27 by rw [hM8]; exact mu_ne _ _ (by first | decide | omega)).trans q97_27
        have q97_28_M8 : (M8 97 28 = M 97 28) := (show M8 97 28 = M1 97 28 by rw [hM8]; exact mu_ne _ _ (by first | decide | omega)).trans q97_28
        have q97_18_M8 : (M8 97 18 = M 97 18) := (show M8 97 18 = M1 97 18 by rw [hM8]; exact mu_ne _ _ (by first | decide | omega)).trans q97_18
        have wM8_97_14 : M8 97 14 = M1 97 14 := by rw [hM8]; exact mu_ne _ _ (by first | decide | omega)
        have wM8_97_15 : M8 97 15 = M1 97 15 := by rw [hM8]; exact mu_ne _ _ (by first | decide | omega)
        have wM8_97_16 : M8 97 16 = M1 97 16 := by rw [hM8]; exact mu_ne _ _ (by first | decide | omega)
        have xM8_97_13 : M8 97 13 = v1 + 1 := by rw [hM8]; exact mu_at _ _ _ _
        refine g_goto (tgt := 8) dX10_next_43 rfl ?_
        refine g_sub [0] rfl ?_
        exact ih _ (by omega) M8 iM8 fM8 q97_12_M8 q97_19_M8 q97_21_M8 q97_24_M8 q97_27_M8 q97_28_M8 q97_18_M8 (by omega) rfl
set_option maxHeartbeats 4000000 in
set_option maxRecDepth 100000 in
theorem c_X10_next (X : Cx) (M : Mm) (hi : IM M) (h14 : 0 ≤ M 97 14 ∧ M 97 14 ≤ M 97 12) : Con X 1 yX10_next cX10_next 1 none [vr X 97] M (Qv (fun M1 => IM M1 ∧ Fr (fun c => c = 97) M M1 ∧ M1 97 12 = M 97 12 ∧ M1 97 19 = M 97 19 ∧ M1 97 21 = M 97 21 ∧ M1 97 24 = M 97 24 ∧ M1 97 27 = M 97 27 ∧ M1 97 28 = M 97 28 ∧ M1 97 18 = M 97 18 ∧ (M 97 14 ≤ M1 97 13 ∧ (0 ≤ M1 97 13 ∧ M1 97 13 ≤ M1 97 14 ∧ M1 97 14 ≤ M1 97 12) ∧ (0 ≤ M1 97 15 ∧ M1 97 15 ≤ 3) ∧ (M1 97 15 ≠ 0 → M1 97 13 < M1 97 14) ∧ (M1 97 15 = 2 → 0 ≤ M1 97 16 ∧ M1 97 16 ≤ 10000009)))) := by
  refine Con.ofG rfl (Nat.le_of_ble_eq_true rfl) ?_
  show G X 1 RX10 cX10_next 1 none (Qv (fun M1 => IM M1 ∧ Fr (fun c => c = 97) M M1 ∧ M1 97 12 = M 97 12 ∧ M1 97 19 = M 97 19 ∧ M1 97 21 = M 97 21 ∧ M1 97 24 = M 97 24 ∧ M1 97 27 = M 97 27 ∧ M1 97 28 = M 97 28 ∧ M1 97 18 = M 97 18 ∧ (M 97 14 ≤ M1 97 13 ∧ (0 ≤ M1 97 13 ∧ M1 97 13 ≤ M1 97 14 ∧ M1 97 14 ≤ M1 97 12) ∧ (0 ≤ M1 97 15 ∧ M1 97 15 ≤ 3) ∧ (M1 97 15 ≠ 0 → M1 97 13 < M1 97 14) ∧ (M1 97 15 = 2 → 0 ≤ M1 97 16 ∧ M1 97 16 ≤ 10000009)))) 0 [(0, vr X 97)] [] M
  have p12 := hi.2.2.2.1
  refine g_aload_n (pc' := 1) 0 dX10_next_0 rfl rfl ?_
  refine g_aload_n (pc' := 2) 0 dX10_next_1 rfl rfl ?_
  refine g_getI (pc' := 5) dX10_next_2 rfl f_X10_151 rfl rfl (fun v1 ev1 rv1 => ?_)
  refine g_putI (pc' := 8) dX10_next_5 rfl p_X10_161 rfl rfl rv1 (fun M2 hM2 => ?_)
  have iM2 : IM M2 := IM.wr hi hM2 (by unfold okv; first | decide | omega)
  have fM2 : Fr (fun c => c = 97) M M2 := Fr.wr Fr.rf hM2 (by first | decide | omega | (dsimp only; omega))
  have q97_12_M2 : (M2 97 12 = M 97 12) := (show M2 97 12 = M 97 12 by rw [hM2]; exact mu_ne _ _ (by first | decide | omega))
  have q97_19_M2 : (M2 97 19 = M 97 19) := (show M2 97 19 = M 97 19 by rw [hM2]; exact mu_ne _ _ (by first | decide | omega))
  have q97_21_M2 : (M2 97 21 = M 97 21) := (show M2 97 21 = M 97 21 by rw [hM2]; exact mu_ne _ _ (by first | decide | omega))
  have q97_24_M2 : (M2 97 24 = M 97 24) := (show M2 97 24 = M 97 24 by rw [hM2]; exact mu_ne _ _ (by first | decide | omega))
  have q97_27_M2 : (M2 97 27 = M 97 27) := (show M2 97 27 = M 97 27 by rw [hM2]; exact mu_ne _ _ (by first | decide | omega))
  have q97_28_M2 : (M2 97 28 = M 97 28) := (show M2 97 28 = M 97 28 by rw [hM2]; exact mu_ne _ _ (by first | decide | omega))
  have q97_18_M2 : (M2 97 18 = M 97 18) := (show M2 97 18 = M 97 18 by rw [hM2]; exact mu_ne _ _ (by first | decide | omega))
  have wM2_97_14 : M2 97 14 = M 97 14 := by rw [hM2]; exact mu_ne _ _ (by first | decide | omega)
  have wM2_97_15 : M2 97 15 = M 97 15 := by rw [hM2]; exact mu_ne _ _ (by first | decide | omega)
  have wM2_97_16 : M2 97 16 = M 97 16 := by rw [hM2]; exact mu_ne _ _ (by first | decide | omega)
  have xM2_97_13 : M2 97 13 = v1 := by rw [hM2]; exact mu_at _ _ _ _
  refine g_sub [0] rfl ?_
  exact l_X10_next_8 X M hi h14 _ M2 iM2 fM2 q97_12_M2 q97_19_M2 q97_21_M2 q97_24_M2 q97_27_M2 q97_28_M2 q97_18_M2 (by omega) rfl
