set_option maxHeartbeats 4000000 in
set_option maxRecDepth 100000 in
theorem l_X10_next_x_243 (X : Cx) (M : Mm) (hi : IM M) (h14 : 0 ≤ M 97 14 ∧ M 97 14 ≤ M 97 12) : ∀ (kk : Nat)  (M1 : Mm) (ic1 : IM M1) (fr1 : Fr (fun c => c = 97) M M1) (q97_12 : (M1 97 12 = M 97 12)) (q97_19 : (M1 97 19 = M 97 19)) (q97_21 : (M1 97 21 = M 97 21)) (q97_24 : (M1 97 24 = M 97 24)) (q97_27 : (M1 97 27 = M 97 27)) (q97_28 : (M1 97 28 = M 97 28)) (q97_10 : (M1 97 10 = M 97 10)) (q97_44 : (M1 97 44 = M 97 44)) (q97_33 : (M1 97 33 = M 97 33)) (q97_18 : (M1 97 18 = M 97 18)) (q97_17 : (M1 97 17 = M 97 17)) (g1 : M 97 14 ≤ M1 97 13 ∧ M1 97 13 ≤ M1 97 14 ∧ M1 97 14 ≤ M 97 12) (g2 : 0 ≤ M1 97 15 ∧ M1 97 15 ≤ 3) (sk : isSk (M 106) (M 97 12) (M 97 14) (M1 97 13)) (nx : NXT (M 106) (M 97 12) (M1 97 13) (M1 97 15) (M1 97 16) (M1 97 14)) (x1 : M1 97 15 = 1 → M1 97 14 < M 97 12 → ¬ (97 ≤ M 106 (M1 97 14).toNat ∧ M 106 (M1 97 14).toNat ≤ 122)), (M 97 12 - M1 97 14).toNat = kk → G X 1 RX10 cX10_next 1 none (Qv (fun M1 => IM M1 ∧ Fr (fun c => c = 97) M M1 ∧ M1 97 12 = M 97 12 ∧ M1 97 19 = M 97 19 ∧ M1 97 21 = M 97 21 ∧ M1 97 24 = M 97 24 ∧ M1 97 27 = M 97 27 ∧ M1 97 28 = M 97 28 ∧ M1 97 10 = M 97 10 ∧ M1 97 44 = M 97 44 ∧ M1 97 33 = M 97 33 ∧ M1 97 18 = M 97 18 ∧ M1 97 17 = M 97 17 ∧ ((NXQ (M 106) (M 97 12) (M 97 14) (M1 97 13) (M1 97 15) (M1 97 16) (M1 97 14)) ∧ M 97 14 ≤ M1 97 13 ∧ (0 ≤ M1 97 13 ∧ M1 97 13 ≤ M1 97 14 ∧ M1 97 14 ≤ M1 97 12) ∧ (0 ≤ M1 97 15 ∧ M1 97 15 ≤ 3) ∧ (M1 97 15 ≠ 0 → M1 97 13 < M1 97 14) ∧ (M1 97 15 = 2 → 0 ≤ M1 97 16 ∧ M1 97 16 ≤ 10000009)))) 243 [(0, vr X 97)] [] M1 := by
  intro kk
  induction kk using Nat.strongRecOn with
  | ind kk ih =>
    intro M1 ic1 fr1 q97_12 q97_19 q97_21 q97_24 q97_27 q97_28 q97_10 q97_44 q97_33 q97_18 q97_17 g1 g2 sk nx x1 hmes
    have p12 := hi.2.2.2.1
    refine g_aload_n (pc' := 244) 0 dX10_next_243 rfl rfl ?_
    refine g_getI (pc' := 247) dX10_next_244 rfl f_X10_174 rfl rfl (fun v1 ev1 rv1 => ?_)
    refine g_iconst (pc' := 248) dX10_next_247 rfl ?_
    refine g_ic_ne (pc' := 251) (tgt := 335) rv1 (by decide) dX10_next_248 rfl rfl (fun c2 => ?_) (fun c2 => ?_)
    · refine g_vreturn dX10_next_335 ?_
      have nf := nx.fin sk x1 (fun z y => absurd z (by omega))
      have nf2 := nf.2
      exact ⟨ic1, fr1, q97_12, q97_19, q97_21, q97_24, q97_27, q97_28, q97_10, q97_44, q97_33, q97_18, q97_17, nf.1, by omega, ⟨by omega, by omega, by omega⟩, by omega, nf2.1, nf2.2.1⟩
    · refine g_aload_n (pc' := 252) 0 dX10_next_251 rfl rfl ?_
      refine g_getI (pc' := 255) dX10_next_252 rfl f_X10_151 rfl rfl (fun v3 ev3 rv3 => ?_)
      refine g_aload_n (pc' := 256) 0 dX10_next_255 rfl rfl ?_
      refine g_getI (pc' := 259) dX10_next_256 rfl f_X10_142 rfl rfl (fun v4 ev4 rv4 => ?_)
      have bv4 : 0 ≤ v4 ∧ v4 ≤ 400 := by rw [ev4]; exact ic1.2.2.2.1
      have av4 : v4 = M 97 12 := ev4.trans q97_12
      refine g_ic_ge (pc' := 262) (tgt := 335) rv3 rv4 dX10_next_259 rfl rfl (fun c5 => ?_) (fun c5 => ?_)
      · refine g_vreturn dX10_next_335 ?_
        have nf := nx.fin sk x1 (fun z y => absurd z (by omega))
        have nf2 := nf.2
        exact ⟨ic1, fr1, q97_12, q97_19, q97_21, q97_24, q97_27, q97_28, q97_10, q97_44, q97_33, q97_18, q97_17, nf.1, by omega, ⟨by omega, by omega, by omega⟩, by omega, nf2.1, nf2.2.1⟩
      · refine g_aload_n (pc' := 263) 0 dX10_next_262 rfl rfl ?_
        refine g_getR (pc' := 266) dX10_next_263 rfl f_X10_36 rfl rfl ?_
        refine g_aload_n (pc' := 267) 0 dX10_next_266 rfl rfl ?_
        refine g_getI (pc' := 270) dX10_next_267 rfl f_X10_151 rfl rfl (fun v6 ev6 rv6 => ?_)
        obtain rfl : v3 = v6 := ev3.trans ev6.symm
        refine g_iald (pc' := 271) dX10_next_270 rfl rfl (by omega) (by omega) (fun v7 ev7 rv7 => ?_)
        have gv7 : v7 = M 106 v3.toNat := by rw [ev7, fr1 106 (by decide)]
        refine g_callSip (pc' := 274) (As := [vi v7]) (S := []) dX10_next_271 rfl m_X10_171 w_X10_isDigit (c_X10_isDigit X M1 v7 rv7) rfl (by decide) (by decide) rfl (Nat.le_of_ble_eq_true rfl) (fun z9 q8 => ?_)
        refine g_if_eq (pc' := 277) (tgt := 335) ⟨by omega, by omega⟩ dX10_next_274 rfl rfl (fun c10 => ?_) (fun c10 => ?_)
        · replace q8 := q8.resolve_left (fun h => absurd (c10.symm.trans h.1) (by decide))
          refine g_vreturn dX10_next_335 ?_
          have nf := nx.fin sk x1 (fun _ _ => by rw [show M1 97 14 = v3 by omega, ← gv7]; omega)
          have nf2 := nf.2
          exact ⟨ic1, fr1, q97_12, q97_19, q97_21, q97_24, q97_27, q97_28, q97_10, q97_44, q97_33, q97_18, q97_17, nf.1, by omega, ⟨by omega, by omega, by omega⟩, by omega, nf2.1, nf2.2.1⟩
        · replace q8 := q8.resolve_right (fun h => c10 h.1)
          have wbd := (nx.k (show M1 97 15 = 2 by omega)).nb
          refine g_aload_n (pc' := 278) 0 dX10_next_277 rfl rfl ?_
          refine g_aload_n (pc' := 279) 0 dX10_next_278 rfl rfl ?_
          refine g_getL (pc' := 282) dX10_next_279 rfl f_X10_164 rfl rfl (fun v11 ev11 rv11 => ?_)
          refine g_ldc2 (pc' := 285) (v := 1000000) dX10_next_282 rfl k_X10_181 ?_
          refine g_lc_le (pc' := 289) (tgt := 296) rv11 (by decide) dX10_next_285 dX10_next_286 rfl rfl (fun c12 => ?_) (fun c12 => ?_)
          · refine g_aload_n (pc' := 297) 0 dX10_next_296 rfl rfl ?_
            refine g_getL (pc' := 300) dX10_next_297 rfl f_X10_164 rfl rfl (fun v13 ev13 rv13 => ?_)
            obtain rfl : v11 = v13 := ev11.trans ev13.symm
            refine g_ldc2 (pc' := 303) (v := 10) dX10_next_300 rfl k_X10_183 ?_
            refine g_lmul (pc' := 304) dX10_next_303 rfl ?_
            refine g_aload_n (pc' := 305) 0 dX10_next_304 rfl rfl ?_
            refine g_getR (pc' := 308) dX10_next_305 rfl f_X10_36 rfl rfl ?_
            refine g_aload_n (pc' := 309) 0 dX10_next_308 rfl rfl ?_
            refine g_getI (pc' := 312) dX10_next_309 rfl f_X10_151 rfl rfl (fun v14 ev14 rv14 => ?_)
            obtain rfl : v3 = v14 := ev3.trans ev14.symm
            refine g_iald (pc' := 313) dX10_next_312 rfl rfl (by omega) (by omega) (fun v15 ev15 rv15 => ?_)
            obtain rfl : v7 = v15 := ev7.trans ev15.symm
            refine g_i2l (pc' := 314) rv7 dX10_next_313 rfl ?_
            refine g_ladd (pc' := 315) dX10_next_314 rfl ?_
            refine g_ldc2 (pc' := 318) (v := 48) dX10_next_315 rfl k_X10_185 ?_
            refine g_lsub (pc' := 319) dX10_next_318 rfl ?_
            refine g_putL (pc' := 322) dX10_next_319 rfl p_X10_164 rfl rfl ⟨by omega, by omega⟩ (fun M16 hM16 => ?_)
            have iM16 : IM M16 := IM.wr ic1 hM16 (by unfold okv; first | decide | omega)
            have fM16 : Fr (fun c => c = 97) M M16 := Fr.wr fr1 hM16 (by first | decide | omega | (dsimp only; omega))
            have q97_12_M16 : (M16 97 12 = M 97 12) := (show M16 97 12 = M1 97 12 by rw [hM16]; exact mu_ne _ _ (by first | decide | omega)).trans q97_12
            have q97_19_M16 : (M16 97 19 = M 97 19) := (show M16 97 19 = M1 97 19 by rw [hM16]; exact mu_ne _ _ (by first | decide | omega)).trans q97_19
            have q97_21_M16 : (M16 97 21 = M 97 21) := (show M16 97 21 = M1 97 21 by rw [hM16]; exact mu_ne _ _ (by first | decide | omega)).trans q97_21
            have q97_24_M16 : (M16 97 24 = M 97 24) := (show M16 97 24 = M1 97 24 by rw [hM16]; exact mu_ne _ _ (by first | decide | omega)).trans q97_24
            have q97_27_M16 : (M16 97 27 = M 97 27) := (show M16 97 27 = M1 97 27 by rw [hM16]; exact mu_ne _ _ (by first | decide | omega)).trans q97_27
            have q97_28_M16 : (M16 97 28 = M 97 28) := (show M16 97 28 = M1 97 28 by rw [hM16]; exact mu_ne _ _ (by first | decide | omega)).trans q97_28
            have q97_10_M16 : (M16 97 10 = M 97 10) := (show M16 97 10 = M1 97 10 by rw [hM16]; exact mu_ne _ _ (by first | decide | omega)).trans q97_10
            have q97_44_M16 : (M16 97 44 = M 97 44) := (show M16 97 44 = M1 97 44 by rw [hM16]; exact mu_ne _ _ (by first | decide | omega)).trans q97_44
            have q97_33_M16 : (M16 97 33 = M 97 33) := (show M16 97 33 = M1 97 33 by rw [hM16]; exact mu_ne _ _ (by first | decide | omega)).trans q97_33
            have q97_18_M16 : (M16 97 18 = M 97 18) := (show M16 97 18 = M1 97 18 by rw [hM16]; exact mu_ne _ _ (by first | decide | omega)).trans q97_18
            have q97_17_M16 : (M16 97 17 = M 97 17) := (show M16 97 17 = M1 97 17 by rw [hM16]; exact mu_ne _ _ (by first | decide | omega)).trans q97_17
            have wM16_97_13 : M16 97 13 = M1 97 13 := by rw [hM16]; exact mu_ne _ _ (by first | decide | omega)
            have wM16_97_14 : M16 97 14 = M1 97 14 := by rw [hM16]; exact mu_ne _ _ (by first | decide | omega)
            have wM16_97_15 : M16 97 15 = M1 97 15 := by rw [hM16]; exact mu_ne _ _ (by first | decide | omega)
            have xM16_97_16 : M16 97 16 = ((v11 * 10) + v7) - 48 := by rw [hM16]; exact mu_at _ _ _ _
            refine g_aload_n (pc' := 323) 0 dX10_next_322 rfl rfl ?_
            refine g_dup (pc' := 324) dX10_next_323 rfl rfl ?_
            refine g_getI (pc' := 327) dX10_next_324 rfl f_X10_151 rfl rfl (fun v17 ev17 rv17 => ?_)
            refine g_iconst (pc' := 328) dX10_next_327 rfl ?_
            refine g_iadd (pc' := 329) dX10_next_328 rfl ?_
            refine g_putI (pc' := 332) dX10_next_329 rfl p_X10_151 rfl rfl ⟨by omega, by omega⟩ (fun M18 hM18 => ?_)
            have iM18 : IM M18 := IM.wr iM16 hM18 (by unfold okv; first | decide | omega)
            have fM18 : Fr (fun c => c = 97) M M18 := Fr.wr fM16 hM18 (by first | decide | omega | (dsimp only; omega))
            have q97_12_M18 : (M18 97 12 = M 97 12) := (show M18 97 12 = M16 97 12 by rw [hM18]; exact mu_ne _ _ (by first | decide | omega)).trans q97_12_M16
            have q97_19_M18 : (M18 97 19 = M 97 19) := (show M18 97 19 = M16 97 19 by rw [hM18]; exact mu_ne _ _ (by first | decide | omega)).trans q97_19_M16
            have q97_21_M18 : (M18 97 21 = M 97 21) := (show M18 97 21 = M16 97 21 by rw [hM18]; exact mu_ne _ _ (by first | decide | omega)).trans q97_21_M16
            have q97_24_M18 : (M18 97 24 = M 97 24) := (show M18 97 24 = M16 97 24 by rw [hM18]; exact mu_ne _ _ (by first | decide | omega)).trans q97_24_M16
            have q97_27_M18 : (M18 97 27 = M 97 27) := (show M18 97 27 = M16 97 27 by rw [hM18]; exact mu_ne _ _ (by first | decide | omega)).trans q97_27_M16
            have q97_28_M18 : (M18 97 28 = M 97 28) := (show M18 97 28 = M16 97 28 by rw [hM18]; exact mu_ne _ _ (by first | decide | omega)).trans q97_28_M16
            have q97_10_M18 : (M18 97 10 = M 97 10) := (show M18 97 10 = M16 97 10 by rw [hM18]; exact mu_ne _ _ (by first | decide | omega)).trans q97_10_M16
            have q97_44_M18 : (M18 97 44 = M 97 44) := (show M18 97 44 = M16 97 44 by rw [hM18]; exact mu_ne _ _ (by first | decide | omega)).trans q97_44_M16
            have q97_33_M18 : (M18 97 33 = M 97 33) := (show M18 97 33 = M16 97 33 by rw [hM18]; exact mu_ne _ _ (by first | decide | omega)).trans q97_33_M16
            have q97_18_M18 : (M18 97 18 = M 97 18) := (show M18 97 18 = M16 97 18 by rw [hM18]; exact mu_ne _ _ (by first | decide | omega)).trans q97_18_M16
            have q97_17_M18 : (M18 97 17 = M 97 17) := (show M18 97 17 = M16 97 17 by rw [hM18]; exact mu_ne _ _ (by first | decide | omega)).trans q97_17_M16
            have wM18_97_13 : M18 97 13 = M16 97 13 := by rw [hM18]; exact mu_ne _ _ (by first | decide | omega)
            have wM18_97_15 : M18 97 15 = M16 97 15 := by rw [hM18]; exact mu_ne _ _ (by first | decide | omega)
            have wM18_97_16 : M18 97 16 = M16 97 16 := by rw [hM18]; exact mu_ne _ _ (by first | decide | omega)
            have xM18_97_16 : M18 97 16 = ((v11 * 10) + v7) - 48 := (show M18 97 16 = M16 97 16 by rw [hM18]; exact mu_ne _ _ (by first | decide | omega)).trans xM16_97_16
            have xM18_97_14 : M18 97 14 = v17 + 1 := by rw [hM18]; exact mu_at _ _ _ _
            refine g_goto (tgt := 243) dX10_next_332 rfl ?_
            refine g_sub [0] rfl ?_
            exact ih _ (by omega) M18 iM18 fM18 q97_12_M18 q97_19_M18 q97_21_M18 q97_24_M18 q97_27_M18 q97_28_M18 q97_10_M18 q97_44_M18 q97_33_M18 q97_18_M18 q97_17_M18 (by omega) (by omega) (by rw [show M18 97 13 = M1 97 13 by omega]; exact sk) (by
                have y := (nx.k (show M1 97 15 = 2 by omega)).dig (w' := M18 97 16) (by omega) (by rw [show M1 97 14 = v3 by omega, ← gv7]; omega) (by rw [if_neg (by omega)]; rw [show M1 97 14 = v3 by omega, ← gv7]; omega)
                rw [show M1 97 13 = M18 97 13 by omega, show M1 97 14 + 1 = M18 97 14 by omega] at y
                exact y.k (by omega)) (fun z => absurd z (by omega)) rfl
          · refine g_aload_n (pc' := 290) 0 dX10_next_289 rfl rfl ?_
            refine g_getL (pc' := 293) dX10_next_290 rfl f_X10_164 rfl rfl (fun v19 ev19 rv19 => ?_)
            obtain rfl : v11 = v19 := ev11.trans ev19.symm
            refine g_goto (tgt := 319) dX10_next_293 rfl ?_
            refine g_putL (pc' := 322) dX10_next_319 rfl p_X10_164 rfl rfl rv11 (fun M20 hM20 => ?_)
            have iM20 : IM M20 := IM.wr ic1 hM20 (by unfold okv; first | decide | omega)
            have fM20 : Fr (fun c => c = 97) M M20 := Fr.wr fr1 hM20 (by first | decide | omega | (dsimp only; omega))
            have q97_12_M20 : (M20 97 12 = M 97 12) := (show M20 97 12 = M1 97 12 by rw [hM20]; exact mu_ne _ _ (by first | decide | omega)).trans q97_12
            have q97_19_M20 : (M20 97 19 = M 97 19) := (show M20 97 19 = M1 97 19 by rw [hM20]; exact mu_ne _ _ (by first | decide | omega)).trans q97_19
            have q97_21_M20 : (M20 97 21 = M 97 21) := (show M20 97 21 = M1 97 21 by rw [hM20]; exact mu_ne _ _ (by first | decide | omega)).trans q97_21
            have q97_24_M20 : (M20 97 24 = M 97 24) := (show M20 97 24 = M1 97 24 by rw [hM20]; exact mu_ne _ _ (by first | decide | omega)).trans q97_24
            have q97_27_M20 : (M20 97 27 = M 97 27) := (show M20 97 27 = M1 97 27 by rw [hM20]; exact mu_ne _ _ (by first | decide | omega)).trans q97_27
            have q97_28_M20 : (M20 97 28 = M 97 28) := (show M20 97 28 = M1 97 28 by rw [hM20]; exact mu_ne _ _ (by first | decide | omega)).trans q97_28
            have q97_10_M20 : (M20 97 10 = M 97 10) := (show M20 97 10 = M1 97 10 by rw [hM20]; exact mu_ne _ _ (by first | decide | omega)).trans q97_10
            have q97_44_M20 : (M20 97 44 = M 97 44) := (show M20 97 44 = M1 97 44 by rw [hM20]; exact mu_ne _ _ (by first | decide | omega)).trans q97_44
            have q97_33_M20 : (M20 97 33 = M 97 33) := (show M20 97 33 = M1 97 33 by rw [hM20]; exact mu_ne _ _ (by first | decide | omega)).trans q97_33
            have q97_18_M20 : (M20 97 18 = M 97 18) := (show M20 97 18 = M1 97 18 by rw [hM20]; exact mu_ne _ _ (by first | decide | omega)).trans q97_18
            have q97_17_M20 : (M20 97 17 = M 97 17) := (show M20 97 17 = M1 97 17 by rw [hM20]; exact mu_ne _ _ (by first | decide | omega)).trans q97_17
            have wM20_97_13 : M20 97 13 = M1 97 13 := by rw [hM20]; exact mu_ne _ _ (by first | decide | omega)
            have wM20_97_14 : M20 97 14 = M1 97 14 := by rw [hM20]; exact mu_ne _ _ (by first | decide | omega)
            have wM20_97_15 : M20 97 15 = M1 97 15 := by rw [hM20]; exact mu_ne _ _ (by first | decide | omega)
            have xM20_97_16 : M20 97 16 = v11 := by rw [hM20]; exact mu_at _ _ _ _
            refine g_aload_n (pc' := 323) 0 dX10_next_322 rfl rfl ?_
            refine g_dup (pc' := 324) dX10_next_323 rfl rfl ?_
            refine g_getI (pc' := 327) dX10_next_324 rfl f_X10_151 rfl rfl (fun v21 ev21 rv21 => ?_)
            refine g_iconst (pc' := 328) dX10_next_327 rfl ?_
            refine g_iadd (pc' := 329) dX10_next_328 rfl ?_
            refine g_putI (pc' := 332) dX10_next_329 rfl p_X10_151 rfl rfl ⟨by omega, by omega⟩ (fun M22 hM22 => ?_)
            have iM22 : IM M22 := IM.wr iM20 hM22 (by unfold okv; first | decide | omega)
            have fM22 : Fr (fun c => c = 97) M M22 := Fr.wr fM20 hM22 (by first | decide | omega | (dsimp only; omega))
            have q97_12_M22 : (M22 97 12 = M 97 12) := (show M22 97 12 = M20 97 12 by rw [hM22]; exact mu_ne _ _ (by first | decide | omega)).trans q97_12_M20
            have q97_19_M22 : (M22 97 19 = M 97 19) := (show M22 97 19 = M20 97 19 by rw [hM22]; exact mu_ne _ _ (by first | decide | omega)).trans q97_19_M20
            have q97_21_M22 : (M22 97 21 = M 97 21) := (show M22 97 21 = M20 97 21 by rw [hM22]; exact mu_ne _ _ (by first | decide | omega)).trans q97_21_M20
            have q97_24_M22 : (M22 97 24 = M 97 24) := (show M22 97 24 = M20 97 24 by rw [hM22]; exact mu_ne _ _ (by first | decide | omega)).trans q97_24_M20
            have q97_27_M22 : (M22 97 27 = M 97 27) := (show M22 97 27 = M20 97 27 by rw [hM22]; exact mu_ne _ _ (by first | decide | omega)).trans q97_27_M20
            have q97_28_M22 : (M22 97 28 = M 97 28) := (show M22 97 28 = M20 97 28 by rw [hM22]; exact mu_ne _ _ (by first | decide | omega)).trans q97_28_M20
            have q97_10_M22 : (M22 97 10 = M 97 10) := (show M22 97 10 = M20 97 10 by rw [hM22]; exact mu_ne _ _ (by first | decide | omega)).trans q97_10_M20
            have q97_44_M22 : (M22 97 44 = M 97 44) := (show M22 97 44 = M20 97 44 by rw [hM22]; exact mu_ne _ _ (by first | decide | omega)).trans q97_44_M20
            have q97_33_M22 : (M22 97 33 = M 97 33) := (show M22 97 33 = M20 97 33 by rw [hM22]; exact mu_ne _ _ (by first | decide | omega)).trans q97_33_M20
            have q97_18_M22 : (M22 97 18 = M 97 18) := (show M22 97 18 = M20 97 18 by rw [hM22]; exact mu_ne _ _ (by first | decide | omega)).trans q97_18_M20
            have q97_17_M22 : (M22 97 17 = M 97 17) := (show M22 97 17 = M20 97 17 by rw [hM22]; exact mu_ne _ _ (by first | decide | omega)).trans q97_17_M20
            have wM22_97_13 : M22 97 13 = M20 97 13 := by rw [hM22]; exact mu_ne _ _ (by first | decide | omega)
            have wM22_97_15 : M22 97 15 = M20 97 15 := by rw [hM22]; exact mu_ne _ _ (by first | decide | omega)
            have wM22_97_16 : M22 97 16 = M20 97 16 := by rw [hM22]; exact mu_ne _ _ (by first | decide | omega)
            have xM22_97_16 : M22 97 16 = v11 := (show M22 97 16 = M20 97 16 by rw [hM22]; exact mu_ne _ _ (by first | decide | omega)).trans xM20_97_16
            have xM22_97_14 : M22 97 14 = v21 + 1 := by rw [hM22]; exact mu_at _ _ _ _
            refine g_goto (tgt := 243) dX10_next_332 rfl ?_
            refine g_sub [0] rfl ?_
            exact ih _ (by omega) M22 iM22 fM22 q97_12_M22 q97_19_M22 q97_21_M22 q97_24_M22 q97_27_M22 q97_28_M22 q97_10_M22 q97_44_M22 q97_33_M22 q97_18_M22 q97_17_M22 (by omega) (by omega) (by rw [show M22 97 13 = M1 97 13 by omega]; exact sk) (by
                have y := (nx.k (show M1 97 15 = 2 by omega)).dig (w' := M22 97 16) (by omega) (by rw [show M1 97 14 = v3 by omega, ← gv7]; omega) (by rw [if_pos (by omega)]; omega)
                rw [show M1 97 13 = M22 97 13 by omega, show M1 97 14 + 1 = M22 97 14 by omega] at y
                exact y.k (by omega)) (fun z => absurd z (by omega)) rfl
set_option maxHeartbeats 4000000 in
set_option maxRecDepth 100000 in
theorem l_X10_next_x_149 (X : Cx) (M : Mm) (hi : IM M) (h14 : 0 ≤ M 97 14 ∧ M 97 14 ≤ M 97 12) : ∀ (kk : Nat)  (M1 : Mm) (ic1 : IM M1) (fr1 : Fr (fun c => c = 97) M M1) (q97_12 : (M1 97 12 = M 97 12)) (q97_19 : (M1 97 19 = M 97 19)) (q97_21 : (M1 97 21 = M 97 21)) (q97_24 : (M1 97 24 = M 97 24)) (q97_27 : (M1 97 27 = M 97 27)) (q97_28 : (M1 97 28 = M 97 28)) (q97_10 : (M1 97 10 = M 97 10)) (q97_44 : (M1 97 44 = M 97 44)) (q97_33 : (M1 97 33 = M 97 33)) (q97_18 : (M1 97 18 = M 97 18)) (q97_17 : (M1 97 17 = M 97 17)) (g1 : M 97 14 ≤ M1 97 13 ∧ M1 97 13 ≤ M1 97 14 ∧ M1 97 14 ≤ M 97 12) (g2 : 0 ≤ M1 97 15 ∧ M1 97 15 ≤ 3) (sk : isSk (M 106) (M 97 12) (M 97 14) (M1 97 13)) (nx : NXT (M 106) (M 97 12) (M1 97 13) (M1 97 15) (M1 97 16) (M1 97 14)), (M 97 12 - M1 97 14).toNat = kk → G X 1 RX10 cX10_next 1 none (Qv (fun M1 => IM M1 ∧ Fr (fun c => c = 97) M M1 ∧ M1 97 12 = M 97 12 ∧ M1 97 19 = M 97 19 ∧ M1 97 21 = M 97 21 ∧ M1 97 24 = M 97 24 ∧ M1 97 27 = M 97 27 ∧ M1 97 28 = M 97 28 ∧ M1 97 10 = M 97 10 ∧ M1 97 44 = M 97 44 ∧ M1 97 33 = M 97 33 ∧ M1 97 18 = M 97 18 ∧ M1 97 17 = M 97 17 ∧ ((NXQ (M 106) (M 97 12) (M 97 14) (M1 97 13) (M1 97 15) (M1 97 16) (M1 97 14)) ∧ M 97 14 ≤ M1 97 13 ∧ (0 ≤ M1 97 13 ∧ M1 97 13 ≤ M1 97 14 ∧ M1 97 14 ≤ M1 97 12) ∧ (0 ≤ M1 97 15 ∧ M1 97 15 ≤ 3) ∧ (M1 97 15 ≠ 0 → M1 97 13 < M1 97 14) ∧ (M1 97 15 = 2 → 0 ≤ M1 97 16 ∧ M1 97 16 ≤ 10000009)))) 149 [(0, vr X 97)] [] M1 := by
  intro kk
  induction kk using Nat.strongRecOn with
  | ind kk ih =>
    intro M1 ic1 fr1 q97_12 q97_19 q97_21 q97_24 q97_27 q97_28 q97_10 q97_44 q97_33 q97_18 q97_17 g1 g2 sk nx hmes
    have p12 := hi.2.2.2.1
    refine g_aload_n (pc' := 150) 0 dX10_next_149 rfl rfl ?_
    refine g_getI (pc' := 153) dX10_next_150 rfl f_X10_174 rfl rfl (fun v1 ev1 rv1 => ?_)
    refine g_iconst (pc' := 154) dX10_next_153 rfl ?_
    refine g_ic_ne (pc' := 157) (tgt := 243) rv1 (by decide) dX10_next_154 rfl rfl (fun c2 => ?_) (fun c2 => ?_)
    · refine g_sub [0] rfl ?_
      exact l_X10_next_x_243 X M hi h14 _ M1 ic1 fr1 q97_12 q97_19 q97_21 q97_24 q97_27 q97_28 q97_10 q97_44 q97_33 q97_18 q97_17 (by omega) (by omega) (by rw [show M1 97 13 = M1 97 13 by omega]; exact sk) nx (fun z y => absurd z (by omega)) rfl
    · refine g_aload_n (pc' := 158) 0 dX10_next_157 rfl rfl ?_
      refine g_getI (pc' := 161) dX10_next_158 rfl f_X10_151 rfl rfl (fun v3 ev3 rv3 => ?_)
      refine g_aload_n (pc' := 162) 0 dX10_next_161 rfl rfl ?_
      refine g_getI (pc' := 165) dX10_next_162 rfl f_X10_142 rfl rfl (fun v4 ev4 rv4 => ?_)
      have bv4 : 0 ≤ v4 ∧ v4 ≤ 400 := by rw [ev4]; exact ic1.2.2.2.1
      have av4 : v4 = M 97 12 := ev4.trans q97_12
      refine g_ic_ge (pc' := 168) (tgt := 243) rv3 rv4 dX10_next_165 rfl rfl (fun c5 => ?_) (fun c5 => ?_)
      · refine g_sub [0] rfl ?_
        exact l_X10_next_x_243 X M hi h14 _ M1 ic1 fr1 q97_12 q97_19 q97_21 q97_24 q97_27 q97_28 q97_10 q97_44 q97_33 q97_18 q97_17 (by omega) (by omega) (by rw [show M1 97 13 = M1 97 13 by omega]; exact sk) nx (fun z y => absurd z (by omega)) rfl
      · refine g_aload_n (pc' := 169) 0 dX10_next_168 rfl rfl ?_
        refine g_getR (pc' := 172) dX10_next_169 rfl f_X10_36 rfl rfl ?_
        refine g_aload_n (pc' := 173) 0 dX10_next_172 rfl rfl ?_
        refine g_getI (pc' := 176) dX10_next_173 rfl f_X10_151 rfl rfl (fun v6 ev6 rv6 => ?_)
        obtain rfl : v3 = v6 := ev3.trans ev6.symm
        refine g_iald (pc' := 177) dX10_next_176 rfl rfl (by omega) (by omega) (fun v7 ev7 rv7 => ?_)
        have gv7 : v7 = M 106 v3.toNat := by rw [ev7, fr1 106 (by decide)]
        refine g_callSip (pc' := 180) (As := [vi v7]) (S := []) dX10_next_177 rfl m_X10_168 w_X10_isSmall (c_X10_isSmall X M1 v7 rv7) rfl (by decide) (by decide) rfl (Nat.le_of_ble_eq_true rfl) (fun z9 q8 => ?_)
        refine g_if_eq (pc' := 183) (tgt := 243) ⟨by omega, by omega⟩ dX10_next_180 rfl rfl (fun c10 => ?_) (fun c10 => ?_)
        · replace q8 := q8.resolve_left (fun h => absurd (c10.symm.trans h.1) (by decide))
          refine g_sub [0] rfl ?_
          exact l_X10_next_x_243 X M hi h14 _ M1 ic1 fr1 q97_12 q97_19 q97_21 q97_24 q97_27 q97_28 q97_10 q97_44 q97_33 q97_18 q97_17 (by omega) (by omega) (by rw [show M1 97 13 = M1 97 13 by omega]; exact sk) nx (fun _ _ => by rw [show M1 97 14 = v3 by omega, ← gv7]; omega) rfl
        · replace q8 := q8.resolve_right (fun h => c10 h.1)
          have wbd := fun z => (nx.k (show M1 97 15 = 1 by omega)).wb z
          refine g_aload_n (pc' := 184) 0 dX10_next_183 rfl rfl ?_
          refine g_aload_n (pc' := 185) 0 dX10_next_184 rfl rfl ?_
          refine g_getI (pc' := 188) dX10_next_185 rfl f_X10_151 rfl rfl (fun v11 ev11 rv11 => ?_)
          obtain rfl : v3 = v11 := ev3.trans ev11.symm
          refine g_aload_n (pc' := 189) 0 dX10_next_188 rfl rfl ?_
          refine g_getI (pc' := 192) dX10_next_189 rfl f_X10_161 rfl rfl (fun v12 ev12 rv12 => ?_)
          refine g_isub (pc' := 193) dX10_next_192 rfl ?_
          refine g_bipush (pc' := 195) (v := 10) dX10_next_193 rfl (by decide) ?_
          refine g_ic_ge (pc' := 198) (tgt := 224) ⟨by omega, by omega⟩ (by decide) dX10_next_195 rfl rfl (fun c13 => ?_) (fun c13 => ?_)
          · refine g_ldc2 (pc' := 227) (v := (-1)) dX10_next_224 rfl k_X10_108 ?_
            refine g_putL (pc' := 230) dX10_next_227 rfl p_X10_164 rfl rfl (by decide) (fun M14 hM14 => ?_)
            have iM14 : IM M14 := IM.wr ic1 hM14 (by unfold okv; first | decide | omega)
            have fM14 : Fr (fun c => c = 97) M M14 := Fr.wr fr1 hM14 (by first | decide | omega | (dsimp only; omega))
            have q97_12_M14 : (M14 97 12 = M 97 12) := (show M14 97 12 = M1 97 12 by rw [hM14]; exact mu_ne _ _ (by first | decide | omega)).trans q97_12
            have q97_19_M14 : (M14 97 19 = M 97 19) := (show M14 97 19 = M1 97 19 by rw [hM14]; exact mu_ne _ _ (by first | decide | omega)).trans q97_19
            have q97_21_M14 : (M14 97 21 = M 97 21) := (show M14 97 21 = M1 97 21 by rw [hM14]; exact mu_ne _ _ (by first | decide | omega)).trans q97_21
            have q97_24_M14 : (M14 97 24 = M 97 24) := (show M14 97 24 = M1 97 24 by rw [hM14]; exact mu_ne _ _ (by first | decide | omega)).trans q97_24
            have q97_27_M14 : (M14 97 27 = M 97 27) := (show M14 97 27 = M1 97 27 by rw [hM14]; exact mu_ne _ _ (by first | decide | omega)).trans q97_27
            have q97_28_M14 : (M14 97 28 = M 97 28) := (show M14 97 28 = M1 97 28 by rw [hM14]; exact mu_ne _ _ (by first | decide | omega)).trans q97_28
            have q97_10_M14 : (M14 97 10 = M 97 10) := (show M14 97 10 = M1 97 10 by rw [hM14]; exact mu_ne _ _ (by first | decide | omega)).trans q97_10
            have q97_44_M14 : (M14 97 44 = M 97 44) := (show M14 97 44 = M1 97 44 by rw [hM14]; exact mu_ne _ _ (by first | decide | omega)).trans q97_44
            have q97_33_M14 : (M14 97 33 = M 97 33) := (show M14 97 33 = M1 97 33 by rw [hM14]; exact mu_ne _ _ (by first | decide | omega)).trans q97_33
            have q97_18_M14 : (M14 97 18 = M 97 18) := (show M14 97 18 = M1 97 18 by rw [hM14]; exact mu_ne _ _ (by first | decide | omega)).trans q97_18
            have q97_17_M14 : (M14 97 17 = M 97 17) := (show M14 97 17 = M1 97 17 by rw [hM14]; exact mu_ne _ _ (by first | decide | omega)).trans q97_17
            have wM14_97_13 : M14 97 13 = M1 97 13 := by rw [hM14]; exact mu_ne _ _ (by first | decide | omega)
            have wM14_97_14 : M14 97 14 = M1 97 14 := by rw [hM14]; exact mu_ne _ _ (by first | decide | omega)
            have wM14_97_15 : M14 97 15 = M1 97 15 := by rw [hM14]; exact mu_ne _ _ (by first | decide | omega)
            have xM14_97_16 : M14 97 16 = (-1) := by rw [hM14]; exact mu_at _ _ _ _
            refine g_aload_n (pc' := 231) 0 dX10_next_230 rfl rfl ?_
            refine g_dup (pc' := 232) dX10_next_231 rfl rfl ?_
            refine g_getI (pc' := 235) dX10_next_232 rfl f_X10_151 rfl rfl (fun v15 ev15 rv15 => ?_)
            refine g_iconst (pc' := 236) dX10_next_235 rfl ?_
            refine g_iadd (pc' := 237) dX10_next_236 rfl ?_
            refine g_putI (pc' := 240) dX10_next_237 rfl p_X10_151 rfl rfl ⟨by omega, by omega⟩ (fun M16 hM16 => ?_)
            have iM16 : IM M16 := IM.wr iM14 hM16 (by unfold okv; first | decide | omega)
            have fM16 : Fr (fun c => c = 97) M M16 := Fr.wr fM14 hM16 (by first | decide | omega | (dsimp only; omega))
            have q97_12_M16 : (M16 97 12 = M 97 12) := (show M16 97 12 = M14 97 12 by rw [hM16]; exact mu_ne _ _ (by first | decide | omega)).trans q97_12_M14
            have q97_19_M16 : (M16 97 19 = M 97 19) := (show M16 97 19 = M14 97 19 by rw [hM16]; exact mu_ne _ _ (by first | decide | omega)).trans q97_19_M14
            have q97_21_M16 : (M16 97 21 = M 97 21) := (show M16 97 21 = M14 97 21 by rw [hM16]; exact mu_ne _ _ (by first | decide | omega)).trans q97_21_M14
            have q97_24_M16 : (M16 97 24 = M 97 24) := (show M16 97 24 = M14 97 24 by rw [hM16]; exact mu_ne _ _ (by first | decide | omega)).trans q97_24_M14
            have q97_27_M16 : (M16 97 27 = M 97 27) := (show M16 97 27 = M14 97 27 by rw [hM16]; exact mu_ne _ _ (by first | decide | omega)).trans q97_27_M14
            have q97_28_M16 : (M16 97 28 = M 97 28) := (show M16 97 28 = M14 97 28 by rw [hM16]; exact mu_ne _ _ (by first | decide | omega)).trans q97_28_M14
            have q97_10_M16 : (M16 97 10 = M 97 10) := (show M16 97 10 = M14 97 10 by rw [hM16]; exact mu_ne _ _ (by first | decide | omega)).trans q97_10_M14
            have q97_44_M16 : (M16 97 44 = M 97 44) := (show M16 97 44 = M14 97 44 by rw [hM16]; exact mu_ne _ _ (by first | decide | omega)).trans q97_44_M14
            have q97_33_M16 : (M16 97 33 = M 97 33) := (show M16 97 33 = M14 97 33 by rw [hM16]; exact mu_ne _ _ (by first | decide | omega)).trans q97_33_M14
            have q97_18_M16 : (M16 97 18 = M 97 18) := (show M16 97 18 = M14 97 18 by rw [hM16]; exact mu_ne _ _ (by first | decide | omega)).trans q97_18_M14
            have q97_17_M16 : (M16 97 17 = M 97 17) := (show M16 97 17 = M14 97 17 by rw [hM16]; exact mu_ne _ _ (by first | decide | omega)).trans q97_17_M14
            have wM16_97_13 : M16 97 13 = M14 97 13 := by rw [hM16]; exact mu_ne _ _ (by first | decide | omega)
            have wM16_97_15 : M16 97 15 = M14 97 15 := by rw [hM16]; exact mu_ne _ _ (by first | decide | omega)
            have wM16_97_16 : M16 97 16 = M14 97 16 := by rw [hM16]; exact mu_ne _ _ (by first | decide | omega)
            have xM16_97_16 : M16 97 16 = (-1) := (show M16 97 16 = M14 97 16 by rw [hM16]; exact mu_ne _ _ (by first | decide | omega)).trans xM14_97_16
            have xM16_97_14 : M16 97 14 = v15 + 1 := by rw [hM16]; exact mu_at _ _ _ _
            refine g_goto (tgt := 149) dX10_next_240 rfl ?_
            refine g_sub [0] rfl ?_
            exact ih _ (by omega) M16 iM16 fM16 q97_12_M16 q97_19_M16 q97_21_M16 q97_24_M16 q97_27_M16 q97_28_M16 q97_10_M16 q97_44_M16 q97_33_M16 q97_18_M16 q97_17_M16 (by omega) (by omega) (by rw [show M16 97 13 = M1 97 13 by omega]; exact sk) (by
                have y := (nx.k (show M1 97 15 = 1 by omega)).word (w' := M16 97 16) (by omega) (by rw [show M1 97 14 = v3 by omega, ← gv7]; omega) (by rw [if_neg (by omega)]; omega)
                rw [show M1 97 13 = M16 97 13 by omega, show M1 97 14 + 1 = M16 97 14 by omega] at y
                exact y.k (by omega)) rfl
          · have wbe := wbd (by omega)
            refine g_aload_n (pc' := 199) 0 dX10_next_198 rfl rfl ?_
            refine g_getL (pc' := 202) dX10_next_199 rfl f_X10_164 rfl rfl (fun v17 ev17 rv17 => ?_)
            refine g_ldc2 (pc' := 205) (v := 32) dX10_next_202 rfl k_X10_177 ?_
            refine g_lmul (pc' := 206) dX10_next_205 rfl ?_
            refine g_aload_n (pc' := 207) 0 dX10_next_206 rfl rfl ?_
            refine g_getR (pc' := 210) dX10_next_207 rfl f_X10_36 rfl rfl ?_
            refine g_aload_n (pc' := 211) 0 dX10_next_210 rfl rfl ?_
            refine g_getI (pc' := 214) dX10_next_211 rfl f_X10_151 rfl rfl (fun v18 ev18 rv18 => ?_)
            obtain rfl : v3 = v18 := ev3.trans ev18.symm
            refine g_iald (pc' := 215) dX10_next_214 rfl rfl (by omega) (by omega) (fun v19 ev19 rv19 => ?_)
            obtain rfl : v7 = v19 := ev7.trans ev19.symm
            refine g_i2l (pc' := 216) rv7 dX10_next_215 rfl ?_
            refine g_ladd (pc' := 217) dX10_next_216 rfl ?_
            refine g_ldc2 (pc' := 220) (v := 96) dX10_next_217 rfl k_X10_179 ?_
            refine g_lsub (pc' := 221) dX10_next_220 rfl ?_
            refine g_goto (tgt := 227) dX10_next_221 rfl ?_
            refine g_putL (pc' := 230) dX10_next_227 rfl p_X10_164 rfl rfl ⟨by omega, by omega⟩ (fun M20 hM20 => ?_)
            have iM20 : IM M20 := IM.wr ic1 hM20 (by unfold okv; first | decide | omega)
            have fM20 : Fr (fun c => c = 97) M M20 := Fr.wr fr1 hM20 (by first | decide | omega | (dsimp only; omega))
            have q97_12_M20 : (M20 97 12 = M 97 12) := (show M20 97 12 = M1 97 12 by rw [hM20]; exact mu_ne _ _ (by first | decide | omega)).trans q97_12
            have q97_19_M20 : (M20 97 19 = M 97 19) := (show M20 97 19 = M1 97 19 by rw [hM20]; exact mu_ne _ _ (by first | decide | omega)).trans q97_19
            have q97_21_M20 : (M20 97 21 = M 97 21) := (show M20 97 21 = M1 97 21 by rw [hM20]; exact mu_ne _ _ (by first | decide | omega)).trans q97_21
            have q97_24_M20 : (M20 97 24 = M 97 24) := (show M20 97 24 = M1 97 24 by rw [hM20]; exact mu_ne _ _ (by first | decide | omega)).trans q97_24
            have q97_27_M20 : (M20 97 27 = M 97 27) := (show M20 97 27 = M1 97 27 by rw [hM20]; exact mu_ne _ _ (by first | decide | omega)).trans q97_27
            have q97_28_M20 : (M20 97 28 = M 97 28) := (show M20 97 28 = M1 97 28 by rw [hM20]; exact mu_ne _ _ (by first | decide | omega)).trans q97_28
            have q97_10_M20 : (M20 97 10 = M 97 10) := (show M20 97 10 = M1 97 10 by rw [hM20]; exact mu_ne _ _ (by first | decide | omega)).trans q97_10
            have q97_44_M20 : (M20 97 44 = M 97 44) := (show M20 97 44 = M1 97 44 by rw [hM20]; exact mu_ne _ _ (by first | decide | omega)).trans q97_44
            have q97_33_M20 : (M20 97 33 = M 97 33) := (show M20 97 33 = M1 97 33 by rw [hM20]; exact mu_ne _ _ (by first | decide | omega)).trans q97_33
            have q97_18_M20 : (M20 97 18 = M 97 18) := (show M20 97 18 = M1 97 18 by rw [hM20]; exact mu_ne _ _ (by first | decide | omega)).trans q97_18
            have q97_17_M20 : (M20 97 17 = M 97 17) := (show M20 97 17 = M1 97 17 by rw [hM20]; exact mu_ne _ _ (by first | decide | omega)).trans q97_17
            have wM20_97_13 : M20 97 13 = M1 97 13 := by rw [hM20]; exact mu_ne _ _ (by first | decide | omega)
            have wM20_97_14 : M20 97 14 = M1 97 14 := by rw [hM20]; exact mu_ne _ _ (by first | decide | omega)
            have wM20_97_15 : M20 97 15 = M1 97 15 := by rw [hM20]; exact mu_ne _ _ (by first | decide | omega)
            have xM20_97_16 : M20 97 16 = ((v17 * 32) + v7) - 96 := by rw [hM20]; exact mu_at _ _ _ _
            refine g_aload_n (pc' := 231) 0 dX10_next_230 rfl rfl ?_
            refine g_dup (pc' := 232) dX10_next_231 rfl rfl ?_
            refine g_getI (pc' := 235) dX10_next_232 rfl f_X10_151 rfl rfl (fun v21 ev21 rv21 => ?_)
            refine g_iconst (pc' := 236) dX10_next_235 rfl ?_
            refine g_iadd (pc' := 237) dX10_next_236 rfl ?_
            refine g_putI (pc' := 240) dX10_next_237 rfl p_X10_151 rfl rfl ⟨by omega, by omega⟩ (fun M22 hM22 => ?_)
            have iM22 : IM M22 := IM.wr iM20 hM22 (by unfold okv; first | decide | omega)
            have fM22 : Fr (fun c => c = 97) M M22 := Fr.wr fM20 hM22 (by first | decide | omega | (dsimp only; omega))
            have q97_12_M22 : (M22 97 12 = M 97 12) := (show M22 97 12 = M20 97 12 by rw [hM22]; exact mu_ne _ _ (by first | decide | omega)).trans q97_12_M20
            have q97_19_M22 : (M22 97 19 = M 97 19) := (show M22 97 19 = M20 97 19 by rw [hM22]; exact mu_ne _ _ (by first | decide | omega)).trans q97_19_M20
            have q97_21_M22 : (M22 97 21 = M 97 21) := (show M22 97 21 = M20 97 21 by rw [hM22]; exact mu_ne _ _ (by first | decide | omega)).trans q97_21_M20
            have q97_24_M22 : (M22 97 24 = M 97 24) := (show M22 97 24 = M20 97 24 by rw [hM22]; exact mu_ne _ _ (by first | decide | omega)).trans q97_24_M20
            have q97_27_M22 : (M22 97 27 = M 97 27) := (show M22 97 27 = M20 97 27 by rw [hM22]; exact mu_ne _ _ (by first | decide | omega)).trans q97_27_M20
            have q97_28_M22 : (M22 97 28 = M 97 28) := (show M22 97 28 = M20 97 28 by rw [hM22]; exact mu_ne _ _ (by first | decide | omega)).trans q97_28_M20
            have q97_10_M22 : (M22 97 10 = M 97 10) := (show M22 97 10 = M20 97 10 by rw [hM22]; exact mu_ne _ _ (by first | decide | omega)).trans q97_10_M20
            have q97_44_M22 : (M22 97 44 = M 97 44) := (show M22 97 44 = M20 97 44 by rw [hM22]; exact mu_ne _ _ (by first | decide | omega)).trans q97_44_M20
            have q97_33_M22 : (M22 97 33 = M 97 33) := (show M22 97 33 = M20 97 33 by rw [hM22]; exact mu_ne _ _ (by first | decide | omega)).trans q97_33_M20
            have q97_18_M22 : (M22 97 18 = M 97 18) := (show M22 97 18 = M20 97 18 by rw [hM22]; exact mu_ne _ _ (by first | decide | omega)).trans q97_18_M20
            have q97_17_M22 : (M22 97 17 = M 97 17) := (show M22 97 17 = M20 97 17 by rw [hM22]; exact mu_ne _ _ (by first | decide | omega)).trans q97_17_M20
            have wM22_97_13 : M22 97 13 = M20 97 13 := by rw [hM22]; exact mu_ne _ _ (by first | decide | omega)
            have wM22_97_15 : M22 97 15 = M20 97 15 := by rw [hM22]; exact mu_ne _ _ (by first | decide | omega)
            have wM22_97_16 : M22 97 16 = M20 97 16 := by rw [hM22]; exact mu_ne _ _ (by first | decide | omega)
            have xM22_97_16 : M22 97 16 = ((v17 * 32) + v7) - 96 := (show M22 97 16 = M20 97 16 by rw [hM22]; exact mu_ne _ _ (by first | decide | omega)).trans xM20_97_16
            have xM22_97_14 : M22 97 14 = v21 + 1 := by rw [hM22]; exact mu_at _ _ _ _
            refine g_goto (tgt := 149) dX10_next_240 rfl ?_
            refine g_sub [0] rfl ?_
            exact ih _ (by omega) M22 iM22 fM22 q97_12_M22 q97_19_M22 q97_21_M22 q97_24_M22 q97_27_M22 q97_28_M22 q97_10_M22 q97_44_M22 q97_33_M22 q97_18_M22 q97_17_M22 (by omega) (by omega) (by rw [show M22 97 13 = M1 97 13 by omega]; exact sk) (by
                have y := (nx.k (show M1 97 15 = 1 by omega)).word (w' := M22 97 16) (by omega) (by rw [show M1 97 14 = v3 by omega, ← gv7]; omega) (by rw [if_pos (by omega)]; rw [show M1 97 14 = v3 by omega, ← gv7]; omega)
                rw [show M1 97 13 = M22 97 13 by omega, show M1 97 14 + 1 = M22 97 14 by omega] at y
                exact y.k (by omega)) rfl
set_option maxHeartbeats 4000000 in
set_option maxRecDepth 100000 in
theorem j_X10_next_x_46 (X : Cx) (M : Mm) (hi : IM M) (h14 : 0 ≤ M 97 14 ∧ M 97 14 ≤ M 97 12)  (M1 : Mm) (ic1 : IM M1) (fr1 : Fr (fun c => c = 97) M M1) (q97_12 : (M1 97 12 = M 97 12)) (q97_19 : (M1 97 19 = M 97 19)) (q97_21 : (M1 97 21 = M 97 21)) (q97_24 : (M1 97 24 = M 97 24)) (q97_27 : (M1 97 27 = M 97 27)) (q97_28 : (M1 97 28 = M 97 28)) (q97_10 : (M1 97 10 = M 97 10)) (q97_44 : (M1 97 44 = M 97 44)) (q97_33 : (M1 97 33 = M 97 33)) (q97_18 : (M1 97 18 = M 97 18)) (q97_17 : (M1 97 17 = M 97 17)) (g1 : M 97 14 ≤ M1 97 13 ∧ M1 97 13 ≤ M 97 12) (sk : isSk (M 106) (M 97 12) (M 97 14) (M1 97 13)) : G X 1 RX10 cX10_next 1 none (Qv (fun M1 => IM M1 ∧ Fr (fun c => c = 97) M M1 ∧ M1 97 12 = M 97 12 ∧ M1 97 19 = M 97 19 ∧ M1 97 21 = M 97 21 ∧ M1 97 24 = M 97 24 ∧ M1 97 27 = M 97 27 ∧ M1 97 28 = M 97 28 ∧ M1 97 10 = M 97 10 ∧ M1 97 44 = M 97 44 ∧ M1 97 33 = M 97 33 ∧ M1 97 18 = M 97 18 ∧ M1 97 17 = M 97 17 ∧ ((NXQ (M 106) (M 97 12) (M 97 14) (M1 97 13) (M1 97 15) (M1 97 16) (M1 97 14)) ∧ M 97 14 ≤ M1 97 13 ∧ (0 ≤ M1 97 13 ∧ M1 97 13 ≤ M1 97 14 ∧ M1 97 14 ≤ M1 97 12) ∧ (0 ≤ M1 97 15 ∧ M1 97 15 ≤ 3) ∧ (M1 97 15 ≠ 0 → M1 97 13 < M1 97 14) ∧ (M1 97 15 = 2 → 0 ≤ M1 97 16 ∧ M1 97 16 ≤ 10000009)))) 46 [(0, vr X 97)] [] M1 := by
  have p12 := hi.2.2.2.1
  refine g_aload_n (pc' := 47) 0 dX10_next_46 rfl rfl ?_
  refine g_aload_n (pc' := 48) 0 dX10_next_47 rfl rfl ?_
  refine g_getI (pc' := 51) dX10_next_48 rfl f_X10_161 rfl rfl (fun v1 ev1 rv1 => ?_)
  refine g_putI (pc' := 54) dX10_next_51 rfl p_X10_151 rfl rfl rv1 (fun M2 hM2 => ?_)
  have iM2 : IM M2 := IM.wr ic1 hM2 (by unfold okv; first | decide | omega)
  have fM2 : Fr (fun c => c = 97) M M2 := Fr.wr fr1 hM2 (by first | decide | omega | (dsimp only; omega))
  have q97_12_M2 : (M2 97 12 = M 97 12) := (show M2 97 12 = M1 97 12 by rw [hM2]; exact mu_ne _ _ (by first | decide | omega)).trans q97_12
  have q97_19_M2 : (M2 97 19 = M 97 19) := (show M2 97 19 = M1 97 19 by rw [hM2]; exact mu_ne _ _ (by first | decide | omega)).trans q97_19
  have q97_21_M2 : (M2 97 21 = M 97 21) := (show M2 97 21 = M1 97 21 by rw [hM2]; exact mu_ne _ _ (by first | decide | omega)).trans q97_21
  have q97_24_M2 : (M2 97 24 = M 97 24) := (show M2 97 24 = M1 97 24 by rw [hM2]; exact mu_ne _ _ (by first | decide | omega)).trans q97_24
  have q97_27_M2 : (M2 97 27 = M 97 27) := (show M2 97 27 = M1 97 27 by rw [hM2]; exact mu_ne _ _ (by first | decide | omega)).trans q97_27
  have q97_28_M2 : (M2 97 28 = M 97 28) := (show M2 97 28 = M1 97 28 by rw [hM2]; exact mu_ne _ _ (by first | decide | omega)).trans q97_28
  have q97_10_M2 : (M2 97 10 = M 97 10) := (show M2 97 10 = M1 97 10 by rw [hM2]; exact mu_ne _ _ (by first | decide | omega)).trans q97_10
  have q97_44_M2 : (M2 97 44 = M 97 44) := (show M2 97 44 = M1 97 44 by rw [hM2]; exact mu_ne _ _ (by first | decide | omega)).trans q97_44
  have q97_33_M2 : (M2 97 33 = M 97 33) := (show M2 97 33 = M1 97 33 by rw [hM2]; exact mu_ne _ _ (by first | decide | omega)).trans q97_33
  have q97_18_M2 : (M2 97 18 = M 97 18) := (show M2 97 18 = M1 97 18 by rw [hM2]; exact mu_ne _ _ (by first | decide | omega)).trans q97_18
  have q97_17_M2 : (M2 97 17 = M 97 17) := (show M2 97 17 = M1 97 17 by rw [hM2]; exact mu_ne _ _ (by first | decide | omega)).trans q97_17
  have wM2_97_13 : M2 97 13 = M1 97 13 := by rw [hM2]; exact mu_ne _ _ (by first | decide | omega)
  have wM2_97_15 : M2 97 15 = M1 97 15 := by rw [hM2]; exact mu_ne _ _ (by first | decide | omega)
  have wM2_97_16 : M2 97 16 = M1 97 16 := by rw [hM2]; exact mu_ne _ _ (by first | decide | omega)
  have xM2_97_14 : M2 97 14 = v1 := by rw [hM2]; exact mu_at _ _ _ _
  refine g_aload_n (pc' := 55) 0 dX10_next_54 rfl rfl ?_
  refine g_lconst (pc' := 56) (v := 0) dX10_next_55 rfl (by decide) ?_
  refine g_putL (pc' := 59) dX10_next_56 rfl p_X10_164 rfl rfl (by decide) (fun M3 hM3 => ?_)
  have iM3 : IM M3 := IM.wr iM2 hM3 (by unfold okv; first | decide | omega)
  have fM3 : Fr (fun c => c = 97) M M3 := Fr.wr fM2 hM3 (by first | decide | omega | (dsimp only; omega))
  have q97_12_M3 : (M3 97 12 = M 97 12) := (show M3 97 12 = M2 97 12 by rw [hM3]; exact mu_ne _ _ (by first | decide | omega)).trans q97_12_M2
  have q97_19_M3 : (M3 97 19 = M 97 19) := (show M3 97 19 = M2 97 19 by rw [hM3]; exact mu_ne _ _ (by first | decide | omega)).trans q97_19_M2
  have q97_21_M3 : (M3 97 21 = M 97 21) := (show M3 97 21 = M2 97 21 by rw [hM3]; exact mu_ne _ _ (by first | decide | omega)).trans q97_21_M2
  have q97_24_M3 : (M3 97 24 = M 97 24) := (show M3 97 24 = M2 97 24 by rw [hM3]; exact mu_ne _ _ (by first | decide | omega)).trans q97_24_M2
  have q97_27_M3 : (M3 97 27 = M 97 27) := (show M3 97 27 = M2 97 27 by rw [hM3]; exact mu_ne _ _ (by first | decide | omega)).trans q97_27_M2
  have q97_28_M3 : (M3 97 28 = M 97 28) := (show M3 97 28 = M2 97 28 by rw [hM3]; exact mu_ne _ _ (by first | decide | omega)).trans q97_28_M2
  have q97_10_M3 : (M3 97 10 = M 97 10) := (show M3 97 10 = M2 97 10 by rw [hM3]; exact mu_ne _ _ (by first | decide | omega)).trans q97_10_M2
  have q97_44_M3 : (M3 97 44 = M 97 44) := (show M3 97 44 = M2 97 44 by rw [hM3]; exact mu_ne _ _ (by first | decide | omega)).trans q97_44_M2
  have q97_33_M3 : (M3 97 33 = M 97 33) := (show M3 97 33 = M2 97 33 by rw [hM3]; exact mu_ne _ _ (by first | decide | omega)).trans q97_33_M2
  have q97_18_M3 : (M3 97 18 = M 97 18) := (show M3 97 18 = M2 97 18 by rw [hM3]; exact mu_ne _ _ (by first | decide | omega)).trans q97_18_M2
  have q97_17_M3 : (M3 97 17 = M 97 17) := (show M3 97 17 = M2 97 17 by rw [hM3]; exact mu_ne _ _ (by first | decide | omega)).trans q97_17_M2
  have wM3_97_13 : M3 97 13 = M2 97 13 := by rw [hM3]; exact mu_ne _ _ (by first | decide | omega)
  have wM3_97_14 : M3 97 14 = M2 97 14 := by rw [hM3]; exact mu_ne _ _ (by first | decide | omega)
  have wM3_97_15 : M3 97 15 = M2 97 15 := by rw [hM3]; exact mu_ne _ _ (by first | decide | omega)
  have xM3_97_14 : M3 97 14 = v1 := (show M3 97 14 = M2 97 14 by rw [hM3]; exact mu_ne _ _ (by first | decide | omega)).trans xM2_97_14
  have xM3_97_16 : M3 97 16 = 0 := by rw [hM3]; exact mu_at _ _ _ _
  refine g_aload_n (pc' := 60) 0 dX10_next_59 rfl rfl ?_
  refine g_aload_n (pc' := 61) 0 dX10_next_60 rfl rfl ?_
  refine g_getI (pc' := 64) dX10_next_61 rfl f_X10_161 rfl rfl (fun v4 ev4 rv4 => ?_)
  refine g_aload_n (pc' := 65) 0 dX10_next_64 rfl rfl ?_
  refine g_getI (pc' := 68) dX10_next_65 rfl f_X10_142 rfl rfl (fun v5 ev5 rv5 => ?_)
  have bv5 : 0 ≤ v5 ∧ v5 ≤ 400 := by rw [ev5]; exact iM3.2.2.2.1
  have av5 : v5 = M 97 12 := ev5.trans q97_12_M3
  refine g_ic_ne (pc' := 71) (tgt := 75) rv4 rv5 dX10_next_68 rfl rfl (fun c6 => ?_) (fun c6 => ?_)
  · refine g_aload_n (pc' := 76) 0 dX10_next_75 rfl rfl ?_
    refine g_getR (pc' := 79) dX10_next_76 rfl f_X10_36 rfl rfl ?_
    refine g_aload_n (pc' := 80) 0 dX10_next_79 rfl rfl ?_
    refine g_getI (pc' := 83) dX10_next_80 rfl f_X10_161 rfl rfl (fun v7 ev7 rv7 => ?_)
    obtain rfl : v4 = v7 := ev4.trans ev7.symm
    refine g_iald (pc' := 84) dX10_next_83 rfl rfl (by omega) (by omega) (fun v8 ev8 rv8 => ?_)
    have gv8 : v8 = M 106 v4.toNat := by rw [ev8, fM3 106 (by decide)]
    refine g_callSip (pc' := 87) (As := [vi v8]) (S := [vr X 97]) dX10_next_84 rfl m_X10_168 w_X10_isSmall (c_X10_isSmall X M3 v8 rv8) rfl (by decide) (by decide) rfl (Nat.le_of_ble_eq_true rfl) (fun z10 q9 => ?_)
    refine g_if_eq (pc' := 90) (tgt := 94) ⟨by omega, by omega⟩ dX10_next_87 rfl rfl (fun c11 => ?_) (fun c11 => ?_)
    · replace q9 := q9.resolve_left (fun h => absurd (c11.symm.trans h.1) (by decide))
      refine g_aload_n (pc' := 95) 0 dX10_next_94 rfl rfl ?_
      refine g_getR (pc' := 98) dX10_next_95 rfl f_X10_36 rfl rfl ?_
      refine g_aload_n (pc' := 99) 0 dX10_next_98 rfl rfl ?_
      refine g_getI (pc' := 102) dX10_next_99 rfl f_X10_161 rfl rfl (fun v12 ev12 rv12 => ?_)
      obtain rfl : v4 = v12 := ev4.trans ev12.symm
      refine g_iald (pc' := 103) dX10_next_102 rfl rfl (by omega) (by omega) (fun v13 ev13 rv13 => ?_)
      obtain rfl : v8 = v13 := ev8.trans ev13.symm
      refine g_callSip (pc' := 106) (As := [vi v8]) (S := [vr X 97]) dX10_next_103 rfl m_X10_171 w_X10_isDigit (c_X10_isDigit X M3 v8 rv8) rfl (by decide) (by decide) rfl (Nat.le_of_ble_eq_true rfl) (fun z15 q14 => ?_)
      refine g_if_eq (pc' := 109) (tgt := 113) ⟨by omega, by omega⟩ dX10_next_106 rfl rfl (fun c16 => ?_) (fun c16 => ?_)
      · replace q14 := q14.resolve_left (fun h => absurd (c16.symm.trans h.1) (by decide))
        refine g_iconst (pc' := 114) dX10_next_113 rfl ?_
        refine g_putI (pc' := 117) dX10_next_114 rfl p_X10_174 rfl rfl (by decide) (fun M17 hM17 => ?_)
        have iM17 : IM M17 := IM.wr iM3 hM17 (by unfold okv; first | decide | omega)
        have fM17 : Fr (fun c => c = 97) M M17 := Fr.wr fM3 hM17 (by first | decide | omega | (dsimp only; omega))
        have q97_12_M17 : (M17 97 12 = M 97 12) := (show M17 97 12 = M3 97 12 by rw [hM17]; exact mu_ne _ _ (by first | decide | omega)).trans q97_12_M3
        have q97_19_M17 : (M17 97 19 = M 97 19) := (show M17 97 19 = M3 97 19 by rw [hM17]; exact mu_ne _ _ (by first | decide | omega)).trans q97_19_M3
        have q97_21_M17 : (M17 97 21 = M 97 21) := (show M17 97 21 = M3 97 21 by rw [hM17]; exact mu_ne _ _ (by first | decide | omega)).trans q97_21_M3
        have q97_24_M17 : (M17 97 24 = M 97 24) := (show M17 97 24 = M3 97 24 by rw [hM17]; exact mu_ne _ _ (by first | decide | omega)).trans q97_24_M3
        have q97_27_M17 : (M17 97 27 = M 97 27) := (show M17 97 27 = M3 97 27 by rw [hM17]; exact mu_ne _ _ (by first | decide | omega)).trans q97_27_M3
        have q97_28_M17 : (M17 97 28 = M 97 28) := (show M17 97 28 = M3 97 28 by rw [hM17]; exact mu_ne _ _ (by first | decide | omega)).trans q97_28_M3
        have q97_10_M17 : (M17 97 10 = M 97 10) := (show M17 97 10 = M3 97 10 by rw [hM17]; exact mu_ne _ _ (by first | decide | omega)).trans q97_10_M3
        have q97_44_M17 : (M17 97 44 = M 97 44) := (show M17 97 44 = M3 97 44 by rw [hM17]; exact mu_ne _ _ (by first | decide | omega)).trans q97_44_M3
        have q97_33_M17 : (M17 97 33 = M 97 33) := (show M17 97 33 = M3 97 33 by rw [hM17]; exact mu_ne _ _ (by first | decide | omega)).trans q97_33_M3
        have q97_18_M17 : (M17 97 18 = M 97 18) := (show M17 97 18 = M3 97 18 by rw [hM17]; exact mu_ne _ _ (by first | decide | omega)).trans q97_18_M3
        have q97_17_M17 : (M17 97 17 = M 97 17) := (show M17 97 17 = M3 97 17 by rw [hM17]; exact mu_ne _ _ (by first | decide | omega)).trans q97_17_M3
        have wM17_97_13 : M17 97 13 = M3 97 13 := by rw [hM17]; exact mu_ne _ _ (by first | decide | omega)
        have wM17_97_14 : M17 97 14 = M3 97 14 := by rw [hM17]; exact mu_ne _ _ (by first | decide | omega)
        have wM17_97_16 : M17 97 16 = M3 97 16 := by rw [hM17]; exact mu_ne _ _ (by first | decide | omega)
        have xM17_97_14 : M17 97 14 = v1 := (show M17 97 14 = M3 97 14 by rw [hM17]; exact mu_ne _ _ (by first | decide | omega)).trans xM3_97_14
        have xM17_97_16 : M17 97 16 = 0 := (show M17 97 16 = M3 97 16 by rw [hM17]; exact mu_ne _ _ (by first | decide | omega)).trans xM3_97_16
        have xM17_97_15 : M17 97 15 = 3 := by rw [hM17]; exact mu_at _ _ _ _
        refine g_aload_n (pc' := 118) 0 dX10_next_117 rfl rfl ?_
        refine g_getI (pc' := 121) dX10_next_118 rfl f_X10_174 rfl rfl (fun v18 ev18 rv18 => ?_)
        have yv18 : v18 = 3 := ev18.trans xM17_97_15
        subst yv18
        refine g_iconst (pc' := 122) dX10_next_121 rfl ?_
        refine g_ic_ne (pc' := 125) (tgt := 149) (by decide) (by decide) dX10_next_122 rfl rfl (fun c19 => ?_) (fun c19 => ?_)
        · exact absurd c19 (by omega)
        · refine g_aload_n (pc' := 126) 0 dX10_next_125 rfl rfl ?_
          refine g_aload_n (pc' := 127) 0 dX10_next_126 rfl rfl ?_
          refine g_getR (pc' := 130) dX10_next_127 rfl f_X10_36 rfl rfl ?_
          refine g_aload_n (pc' := 131) 0 dX10_next_130 rfl rfl ?_
          refine g_getI (pc' := 134) dX10_next_131 rfl f_X10_161 rfl rfl (fun v20 ev20 rv20 => ?_)
          refine g_iald (pc' := 135) dX10_next_134 rfl rfl (by omega) (by omega) (fun v21 ev21 rv21 => ?_)
          have gv21 : v21 = M 106 v20.toNat := by rw [ev21, fM17 106 (by decide)]
          refine g_i2l (pc' := 136) rv21 dX10_next_135 rfl ?_
          refine g_putL (pc' := 139) dX10_next_136 rfl p_X10_164 rfl rfl ⟨by omega, by omega⟩ (fun M22 hM22 => ?_)
          have iM22 : IM M22 := IM.wr iM17 hM22 (by unfold okv; first | decide | omega)
          have fM22 : Fr (fun c => c = 97) M M22 := Fr.wr fM17 hM22 (by first | decide | omega | (dsimp only; omega))
          have q97_12_M22 : (M22 97 12 = M 97 12) := (show M22 97 12 = M17 97 12 by rw [hM22]; exact mu_ne _ _ (by first | decide | omega)).trans q97_12_M17
          have q97_19_M22 : (M22 97 19 = M 97 19) := (show M22 97 19 = M17 97 19 by rw [hM22]; exact mu_ne _ _ (by first | decide | omega)).trans q97_19_M17
          have q97_21_M22 : (M22 97 21 = M 97 21) := (show M22 97 21 = M17 97 21 by rw [hM22]; exact mu_ne _ _ (by first | decide | omega)).trans q97_21_M17
          have q97_24_M22 : (M22 97 24 = M 97 24) := (show M22 97 24 = M17 97 24 by rw [hM22]; exact mu_ne _ _ (by first | decide | omega)).trans q97_24_M17
          have q97_27_M22 : (M22 97 27 = M 97 27) := (show M22 97 27 = M17 97 27 by rw [hM22]; exact mu_ne _ _ (by first | decide | omega)).trans q97_27_M17
          have q97_28_M22 : (M22 97 28 = M 97 28) := (show M22 97 28 = M17 97 28 by rw [hM22]; exact mu_ne _ _ (by first | decide | omega)).trans q97_28_M17
          have q97_10_M22 : (M22 97 10 = M 97 10) := (show M22 97 10 = M17 97 10 by rw [hM22]; exact mu_ne _ _ (by first | decide | omega)).trans q97_10_M17
          have q97_44_M22 : (M22 97 44 = M 97 44) := (show M22 97 44 = M17 97 44 by rw [hM22]; exact mu_ne _ _ (by first | decide | omega)).trans q97_44_M17
          have q97_33_M22 : (M22 97 33 = M 97 33) := (show M22 97 33 = M17 97 33 by rw [hM22]; exact mu_ne _ _ (by first | decide | omega)).trans q97_33_M17
          have q97_18_M22 : (M22 97 18 = M 97 18) := (show M22 97 18 = M17 97 18 by rw [hM22]; exact mu_ne _ _ (by first | decide | omega)).trans q97_18_M17
          have q97_17_M22 : (M22 97 17 = M 97 17) := (show M22 97 17 = M17 97 17 by rw [hM22]; exact mu_ne _ _ (by first | decide | omega)).trans q97_17_M17
          have wM22_97_13 : M22 97 13 = M17 97 13 := by rw [hM22]; exact mu_ne _ _ (by first | decide | omega)
          have wM22_97_14 : M22 97 14 = M17 97 14 := by rw [hM22]; exact mu_ne _ _ (by first | decide | omega)
          have wM22_97_15 : M22 97 15 = M17 97 15 := by rw [hM22]; exact mu_ne _ _ (by first | decide | omega)
          have xM22_97_14 : M22 97 14 = v1 := (show M22 97 14 = M17 97 14 by rw [hM22]; exact mu_ne _ _ (by first | decide | omega)).trans xM17_97_14
          have xM22_97_15 : M22 97 15 = 3 := (show M22 97 15 = M17 97 15 by rw [hM22]; exact mu_ne _ _ (by first | decide | omega)).trans xM17_97_15
          have xM22_97_16 : M22 97 16 = v21 := by rw [hM22]; exact mu_at _ _ _ _
          refine g_aload_n (pc' := 140) 0 dX10_next_139 rfl rfl ?_
          refine g_dup (pc' := 141) dX10_next_140 rfl rfl ?_
          refine g_getI (pc' := 144) dX10_next_141 rfl f_X10_151 rfl rfl (fun v23 ev23 rv23 => ?_)
          have yv23 : v23 = v1 := ev23.trans xM22_97_14
          refine g_iconst (pc' := 145) dX10_next_144 rfl ?_
          refine g_iadd (pc' := 146) dX10_next_145 rfl ?_
          refine g_putI (pc' := 149) dX10_next_146 rfl p_X10_151 rfl rfl ⟨by omega, by omega⟩ (fun M24 hM24 => ?_)
          have iM24 : IM M24 := IM.wr iM22 hM24 (by unfold okv; first | decide | omega)
          have fM24 : Fr (fun c => c = 97) M M24 := Fr.wr fM22 hM24 (by first | decide | omega | (dsimp only; omega))
          have q97_12_M24 : (M24 97 12 = M 97 12) := (show M24 97 12 = M22 97 12 by rw [hM24]; exact mu_ne _ _ (by first | decide | omega)).trans q97_12_M22
          have q97_19_M24 : (M24 97 19 = M 97 19) := (show M24 97 19 = M22 97 19 by rw [hM24]; exact mu_ne _ _ (by first | decide | omega)).trans q97_19_M22
          have q97_21_M24 : (M24 97 21 = M 97 21) := (show M24 97 21 = M22 97 21 by rw [hM24]; exact mu_ne _ _ (by first | decide | omega)).trans q97_21_M22
          have q97_24_M24 : (M24 97 24 = M 97 24) := (show M24 97 24 = M22 97 24 by rw [hM24]; exact mu_ne _ _ (by first | decide | omega)).trans q97_24_M22
          have q97_27_M24 : (M24 97 27 = M 97 27) := (show M24 97 27 = M22 97 27 by rw [hM24]; exact mu_ne _ _ (by first | decide | omega)).trans q97_27_M22
          have q97_28_M24 : (M24 97 28 = M 97 28) := (show M24 97 28 = M22 97 28 by rw [hM24]; exact mu_ne _ _ (by first | decide | omega)).trans q97_28_M22
          have q97_10_M24 : (M24 97 10 = M 97 10) := (show M24 97 10 = M22 97 10 by rw [hM24]; exact mu_ne _ _ (by first | decide | omega)).trans q97_10_M22
          have q97_44_M24 : (M24 97 44 = M 97 44) := (show M24 97 44 = M22 97 44 by rw [hM24]; exact mu_ne _ _ (by first | decide | omega)).trans q97_44_M22
          have q97_33_M24 : (M24 97 33 = M 97 33) := (show M24 97 33 = M22 97 33 by rw [hM24]; exact mu_ne _ _ (by first | decide | omega)).trans q97_33_M22
          have q97_18_M24 : (M24 97 18 = M 97 18) := (show M24 97 18 = M22 97 18 by rw [hM24]; exact mu_ne _ _ (by first | decide | omega)).trans q97_18_M22
          have q97_17_M24 : (M24 97 17 = M 97 17) := (show M24 97 17 = M22 97 17 by rw [hM24]; exact mu_ne _ _ (by first | decide | omega)).trans q97_17_M22
          have wM24_97_13 : M24 97 13 = M22 97 13 := by rw [hM24]; exact mu_ne _ _ (by first | decide | omega)
          have wM24_97_15 : M24 97 15 = M22 97 15 := by rw [hM24]; exact mu_ne _ _ (by first | decide | omega)
          have wM24_97_16 : M24 97 16 = M22 97 16 := by rw [hM24]; exact mu_ne _ _ (by first | decide | omega)
          have xM24_97_15 : M24 97 15 = 3 := (show M24 97 15 = M22 97 15 by rw [hM24]; exact mu_ne _ _ (by first | decide | omega)).trans xM22_97_15
          have xM24_97_16 : M24 97 16 = v21 := (show M24 97 16 = M22 97 16 by rw [hM24]; exact mu_ne _ _ (by first | decide | omega)).trans xM22_97_16
          have xM24_97_14 : M24 97 14 = v23 + 1 := by rw [hM24]; exact mu_at _ _ _ _
          refine g_sub [0] rfl ?_
          exact l_X10_next_x_149 X M hi h14 _ M24 iM24 fM24 q97_12_M24 q97_19_M24 q97_21_M24 q97_24_M24 q97_27_M24 q97_28_M24 q97_10_M24 q97_44_M24 q97_33_M24 q97_18_M24 q97_17_M24 (by omega) (by omega) (by rw [show M24 97 13 = M1 97 13 by omega]; exact sk) (by
              have y := NXT.s3 (T := M 106) (n := M 97 12) (f := M1 97 13) (w := M24 97 16) (by omega) (by omega) (sk.2.2.2 (by omega)) (by
                have q := kdO_c (M 106 (M1 97 13).toNat)
                rw [show M1 97 13 = v4 by omega, ← gv8] at q
                rw [show M1 97 13 = v4 by omega, ← gv8]; omega) (by rw [show M1 97 13 = v20 by omega, ← gv21]; omega)
              rw [show M1 97 13 + 1 = M24 97 14 by omega] at y
              exact (show M24 97 13 = M1 97 13 by omega) ▸ y.k (show 3 = M24 97 15 by omega)) rfl
      · replace q14 := q14.resolve_right (fun h => c16 h.1)
        refine g_iconst (pc' := 110) dX10_next_109 rfl ?_
        refine g_goto (tgt := 114) dX10_next_110 rfl ?_
        refine g_putI (pc' := 117) dX10_next_114 rfl p_X10_174 rfl rfl (by decide) (fun M25 hM25 => ?_)
        have iM25 : IM M25 := IM.wr iM3 hM25 (by unfold okv; first | decide | omega)
        have fM25 : Fr (fun c => c = 97) M M25 := Fr.wr fM3 hM25 (by first | decide | omega | (dsimp only; omega))
        have q97_12_M25 : (M25 97 12 = M 97 12) := (show M25 97 12 = M3 97 12 by rw [hM25]; exact mu_ne _ _ (by first | decide | omega)).trans q97_12_M3
        have q97_19_M25 : (M25 97 19 = M 97 19) := (show M25 97 19 = M3 97 19 by rw [hM25]; exact mu_ne _ _ (by first | decide | omega)).trans q97_19_M3
        have q97_21_M25 : (M25 97 21 = M 97 21) := (show M25 97 21 = M3 97 21 by rw [hM25]; exact mu_ne _ _ (by first | decide | omega)).trans q97_21_M3
        have q97_24_M25 : (M25 97 24 = M 97 24) := (show M25 97 24 = M3 97 24 by rw [hM25]; exact mu_ne _ _ (by first | decide | omega)).trans q97_24_M3
        have q97_27_M25 : (M25 97 27 = M 97 27) := (show M25 97 27 = M3 97 27 by rw [hM25]; exact mu_ne _ _ (by first | decide | omega)).trans q97_27_M3
        have q97_28_M25 : (M25 97 28 = M 97 28) := (show M25 97 28 = M3 97 28 by rw [hM25]; exact mu_ne _ _ (by first | decide | omega)).trans q97_28_M3
        have q97_10_M25 : (M25 97 10 = M 97 10) := (show M25 97 10 = M3 97 10 by rw [hM25]; exact mu_ne _ _ (by first | decide | omega)).trans q97_10_M3
        have q97_44_M25 : (M25 97 44 = M 97 44) := (show M25 97 44 = M3 97 44 by rw [hM25]; exact mu_ne _ _ (by first | decide | omega)).trans q97_44_M3
        have q97_33_M25 : (M25 97 33 = M 97 33) := (show M25 97 33 = M3 97 33 by rw [hM25]; exact mu_ne _ _ (by first | decide | omega)).trans q97_33_M3
        have q97_18_M25 : (M25 97 18 = M 97 18) := (show M25 97 18 = M3 97 18 by rw [hM25]; exact mu_ne _ _ (by first | decide | omega)).trans q97_18_M3
        have q97_17_M25 : (M25 97 17 = M 97 17) := (show M25 97 17 = M3 97 17 by rw [hM25]; exact mu_ne _ _ (by first | decide | omega)).trans q97_17_M3
        have wM25_97_13 : M25 97 13 = M3 97 13 := by rw [hM25]; exact mu_ne _ _ (by first | decide | omega)
        have wM25_97_14 : M25 97 14 = M3 97 14 := by rw [hM25]; exact mu_ne _ _ (by first | decide | omega)
        have wM25_97_16 : M25 97 16 = M3 97 16 := by rw [hM25]; exact mu_ne _ _ (by first | decide | omega)
        have xM25_97_14 : M25 97 14 = v1 := (show M25 97 14 = M3 97 14 by rw [hM25]; exact mu_ne _ _ (by first | decide | omega)).trans xM3_97_14
        have xM25_97_16 : M25 97 16 = 0 := (show M25 97 16 = M3 97 16 by rw [hM25]; exact mu_ne _ _ (by first | decide | omega)).trans xM3_97_16
        have xM25_97_15 : M25 97 15 = 2 := by rw [hM25]; exact mu_at _ _ _ _
        refine g_aload_n (pc' := 118) 0 dX10_next_117 rfl rfl ?_
        refine g_getI (pc' := 121) dX10_next_118 rfl f_X10_174 rfl rfl (fun v26 ev26 rv26 => ?_)
        have yv26 : v26 = 2 := ev26.trans xM25_97_15
        subst yv26
        refine g_iconst (pc' := 122) dX10_next_121 rfl ?_
        refine g_ic_ne (pc' := 125) (tgt := 149) (by decide) (by decide) dX10_next_122 rfl rfl (fun c27 => ?_) (fun c27 => ?_)
        · refine g_sub [0] rfl ?_
          exact l_X10_next_x_149 X M hi h14 _ M25 iM25 fM25 q97_12_M25 q97_19_M25 q97_21_M25 q97_24_M25 q97_27_M25 q97_28_M25 q97_10_M25 q97_44_M25 q97_33_M25 q97_18_M25 q97_17_M25 (by omega) (by omega) (by rw [show M25 97 13 = M1 97 13 by omega]; exact sk) (by
              have y := NXT.s0 (T := M 106) (n := M 97 12) (f := M1 97 13) (k := 2) (by omega) (by omega) ⟨fun z => absurd z (by omega), fun z => ⟨sk.2.2.2 z, (by
                have q := kdO_c (M 106 (M1 97 13).toNat)
                rw [show M1 97 13 = v4 by omega, ← gv8] at q
                rw [show M1 97 13 = v4 by omega, ← gv8]; omega)⟩⟩ (by decide)
              rw [show M25 97 13 = M1 97 13 by omega, show M25 97 14 = M1 97 13 by omega, show M25 97 15 = 2 by omega, show M25 97 16 = 0 by omega]
              exact y) rfl
        · exact absurd c27 (by omega)
    · replace q9 := q9.resolve_right (fun h => c11 h.1)
      refine g_iconst (pc' := 91) dX10_next_90 rfl ?_
      refine g_goto (tgt := 114) dX10_next_91 rfl ?_
      refine g_putI (pc' := 117) dX10_next_114 rfl p_X10_174 rfl rfl (by decide) (fun M28 hM28 => ?_)
      have iM28 : IM M28 := IM.wr iM3 hM28 (by unfold okv; first | decide | omega)
      have fM28 : Fr (fun c => c = 97) M M28 := Fr.wr fM3 hM28 (by first | decide | omega | (dsimp only; omega))
      have q97_12_M28 : (M28 97 12 = M 97 12) := (show M28 97 12 = M3 97 12 by rw [hM28]; exact mu_ne _ _ (by first | decide | omega)).trans q97_12_M3
      have q97_19_M28 : (M28 97 19 = M 97 19) := (show M28 97 19 = M3 97 19 by rw [hM28]; exact mu_ne _ _ (by first | decide | omega)).trans q97_19_M3
      have q97_21_M28 : (M28 97 21 = M 97 21) := (show M28 97 21 = M3 97 21 by rw [hM28]; exact mu_ne _ _ (by first | decide | omega)).trans q97_21_M3
      have q97_24_M28 : (M28 97 24 = M 97 24) := (show M28 97 24 = M3 97 24 by rw [hM28]; exact mu_ne _ _ (by first | decide | omega)).trans q97_24_M3
      have q97_27_M28 : (M28 97 27 = M 97 27) := (show M28 97 27 = M3 97 27 by rw [hM28]; exact mu_ne _ _ (by first | decide | omega)).trans q97_27_M3
      have q97_28_M28 : (M28 97 28 = M 97 28) := (show M28 97 28 = M3 97 28 by rw [hM28]; exact mu_ne _ _ (by first | decide | omega)).trans q97_28_M3
      have q97_10_M28 : (M28 97 10 = M 97 10) := (show M28 97 10 = M3 97 10 by rw [hM28]; exact mu_ne _ _ (by first | decide | omega)).trans q97_10_M3
      have q97_44_M28 : (M28 97 44 = M 97 44) := (show M28 97 44 = M3 97 44 by rw [hM28]; exact mu_ne _ _ (by first | decide | omega)).trans q97_44_M3
      have q97_33_M28 : (M28 97 33 = M 97 33) := (show M28 97 33 = M3 97 33 by rw [hM28]; exact mu_ne _ _ (by first | decide | omega)).trans q97_33_M3
      have q97_18_M28 : (M28 97 18 = M 97 18) := (show M28 97 18 = M3 97 18 by rw [hM28]; exact mu_ne _ _ (by first | decide | omega)).trans q97_18_M3
      have q97_17_M28 : (M28 97 17 = M 97 17) := (show M28 97 17 = M3 97 17 by rw [hM28]; exact mu_ne _ _ (by first | decide | omega)).trans q97_17_M3
      have wM28_97_13 : M28 97 13 = M3 97 13 := by rw [hM28]; exact mu_ne _ _ (by first | decide | omega)
      have wM28_97_14 : M28 97 14 = M3 97 14 := by rw [hM28]; exact mu_ne _ _ (by first | decide | omega)
      have wM28_97_16 : M28 97 16 = M3 97 16 := by rw [hM28]; exact mu_ne _ _ (by first | decide | omega)
      have xM28_97_14 : M28 97 14 = v1 := (show M28 97 14 = M3 97 14 by rw [hM28]; exact mu_ne _ _ (by first | decide | omega)).trans xM3_97_14
      have xM28_97_16 : M28 97 16 = 0 := (show M28 97 16 = M3 97 16 by rw [hM28]; exact mu_ne _ _ (by first | decide | omega)).trans xM3_97_16
      have xM28_97_15 : M28 97 15 = 1 := by rw [hM28]; exact mu_at _ _ _ _
      refine g_aload_n (pc' := 118) 0 dX10_next_117 rfl rfl ?_
      refine g_getI (pc' := 121) dX10_next_118 rfl f_X10_174 rfl rfl (fun v29 ev29 rv29 => ?_)
      have yv29 : v29 = 1 := ev29.trans xM28_97_15
      subst yv29
      refine g_iconst (pc' := 122) dX10_next_121 rfl ?_
      refine g_ic_ne (pc' := 125) (tgt := 149) (by decide) (by decide) dX10_next_122 rfl rfl (fun c30 => ?_) (fun c30 => ?_)
      · refine g_sub [0] rfl ?_
        exact l_X10_next_x_149 X M hi h14 _ M28 iM28 fM28 q97_12_M28 q97_19_M28 q97_21_M28 q97_24_M28 q97_27_M28 q97_28_M28 q97_10_M28 q97_44_M28 q97_33_M28 q97_18_M28 q97_17_M28 (by omega) (by omega) (by rw [show M28 97 13 = M1 97 13 by omega]; exact sk) (by
            have y := NXT.s0 (T := M 106) (n := M 97 12) (f := M1 97 13) (k := 1) (by omega) (by omega) ⟨fun z => absurd z (by omega), fun z => ⟨sk.2.2.2 z, (by
              have q := kdO_c (M 106 (M1 97 13).toNat)
              rw [show M1 97 13 = v4 by omega, ← gv8] at q
              rw [show M1 97 13 = v4 by omega, ← gv8]; omega)⟩⟩ (by decide)
            rw [show M28 97 13 = M1 97 13 by omega, show M28 97 14 = M1 97 13 by omega, show M28 97 15 = 1 by omega, show M28 97 16 = 0 by omega]
            exact y) rfl
      · exact absurd c30 (by omega)
  · refine g_iconst (pc' := 72) dX10_next_71 rfl ?_
    refine g_goto (tgt := 114) dX10_next_72 rfl ?_
    refine g_putI (pc' := 117) dX10_next_114 rfl p_X10_174 rfl rfl (by decide) (fun M31 hM31 => ?_)
    have iM31 : IM M31 := IM.wr iM3 hM31 (by unfold okv; first | decide | omega)
    have fM31 : Fr (fun c => c = 97) M M31 := Fr.wr fM3 hM31 (by first | decide | omega | (dsimp only; omega))
    have q97_12_M31 : (M31 97 12 = M 97 12) := (show M31 97 12 = M3 97 12 by rw [hM31]; exact mu_ne _ _ (by first | decide | omega)).trans q97_12_M3
    have q97_19_M31 : (M31 97 19 = M 97 19) := (show M31 97 19 = M3 97 19 by rw [hM31]; exact mu_ne _ _ (by first | decide | omega)).trans q97_19_M3
    have q97_21_M31 : (M31 97 21 = M 97 21) := (show M31 97 21 = M3 97 21 by rw [hM31]; exact mu_ne _ _ (by first | decide | omega)).trans q97_21_M3
    have q97_24_M31 : (M31 97 24 = M 97 24) := (show M31 97 24 = M3 97 24 by rw [hM31]; exact mu_ne _ _ (by first | decide | omega)).trans q97_24_M3
    have q97_27_M31 : (M31 97 27 = M 97 27) := (show M31 97 27 = M3 97 27 by rw [hM31]; exact mu_ne _ _ (by first | decide | omega)).trans q97_27_M3
    have q97_28_M31 : (M31 97 28 = M 97 28) := (show M31 97 28 = M3 97 28 by rw [hM31]; exact mu_ne _ _ (by first | decide | omega)).trans q97_28_M3
    have q97_10_M31 : (M31 97 10 = M 97 10) := (show M31 97 10 = M3 97 10 by rw [hM31]; exact mu_ne _ _ (by first | decide | omega)).trans q97_10_M3
    have q97_44_M31 : (M31 97 44 = M 97 44) := (show M31 97 44 = M3 97 44 by rw [hM31]; exact mu_ne _ _ (by first | decide | omega)).trans q97_44_M3
    have q97_33_M31 : (M31 97 33 = M 97 33) := (show M31 97 33 = M3 97 33 by rw [hM31]; exact mu_ne _ _ (by first | decide | omega)).trans q97_33_M3
    have q97_18_M31 : (M31 97 18 = M 97 18) := (show M31 97 18 = M3 97 18 by rw [hM31]; exact mu_ne _ _ (by first | decide | omega)).trans q97_18_M3
    have q97_17_M31 : (M31 97 17 = M 97 17) := (show M31 97 17 = M3 97 17 by rw [hM31]; exact mu_ne _ _ (by first | decide | omega)).trans q97_17_M3
    have wM31_97_13 : M31 97 13 = M3 97 13 := by rw [hM31]; exact mu_ne _ _ (by first | decide | omega)
    have wM31_97_14 : M31 97 14 = M3 97 14 := by rw [hM31]; exact mu_ne _ _ (by first | decide | omega)
    have wM31_97_16 : M31 97 16 = M3 97 16 := by rw [hM31]; exact mu_ne _ _ (by first | decide | omega)
    have xM31_97_14 : M31 97 14 = v1 := (show M31 97 14 = M3 97 14 by rw [hM31]; exact mu_ne _ _ (by first | decide | omega)).trans xM3_97_14
    have xM31_97_16 : M31 97 16 = 0 := (show M31 97 16 = M3 97 16 by rw [hM31]; exact mu_ne _ _ (by first | decide | omega)).trans xM3_97_16
    have xM31_97_15 : M31 97 15 = 0 := by rw [hM31]; exact mu_at _ _ _ _
    refine g_aload_n (pc' := 118) 0 dX10_next_117 rfl rfl ?_
    refine g_getI (pc' := 121) dX10_next_118 rfl f_X10_174 rfl rfl (fun v32 ev32 rv32 => ?_)
    have yv32 : v32 = 0 := ev32.trans xM31_97_15
    subst yv32
    refine g_iconst (pc' := 122) dX10_next_121 rfl ?_
    refine g_ic_ne (pc' := 125) (tgt := 149) (by decide) (by decide) dX10_next_122 rfl rfl (fun c33 => ?_) (fun c33 => ?_)
    · refine g_sub [0] rfl ?_
      exact l_X10_next_x_149 X M hi h14 _ M31 iM31 fM31 q97_12_M31 q97_19_M31 q97_21_M31 q97_24_M31 q97_27_M31 q97_28_M31 q97_10_M31 q97_44_M31 q97_33_M31 q97_18_M31 q97_17_M31 (by omega) (by omega) (by rw [show M31 97 13 = M1 97 13 by omega]; exact sk) (by
          have y := NXT.s0 (T := M 106) (n := M 97 12) (f := M1 97 13) (k := 0) (by omega) (by omega) ⟨fun _ => rfl, fun z => absurd z (by omega)⟩ (by decide)
          rw [show M31 97 13 = M1 97 13 by omega, show M31 97 14 = M1 97 13 by omega, show M31 97 15 = 0 by omega, show M31 97 16 = 0 by omega]
          exact y) rfl
    · exact absurd c33 (by omega)
set_option maxHeartbeats 4000000 in
set_option maxRecDepth 100000 in
theorem l_X10_next_x_8 (X : Cx) (M : Mm) (hi : IM M) (h14 : 0 ≤ M 97 14 ∧ M 97 14 ≤ M 97 12) : ∀ (kk : Nat)  (M1 : Mm) (ic1 : IM M1) (fr1 : Fr (fun c => c = 97) M M1) (q97_12 : (M1 97 12 = M 97 12)) (q97_19 : (M1 97 19 = M 97 19)) (q97_21 : (M1 97 21 = M 97 21)) (q97_24 : (M1 97 24 = M 97 24)) (q97_27 : (M1 97 27 = M 97 27)) (q97_28 : (M1 97 28 = M 97 28)) (q97_10 : (M1 97 10 = M 97 10)) (q97_44 : (M1 97 44 = M 97 44)) (q97_33 : (M1 97 33 = M 97 33)) (q97_18 : (M1 97 18 = M 97 18)) (q97_17 : (M1 97 17 = M 97 17)) (g1 : M 97 14 ≤ M1 97 13 ∧ M1 97 13 ≤ M 97 12) (sk : ∀ j : Nat, M 97 14 ≤ j → (j : Int) < M1 97 13 → M 106 j = 32), (M 97 12 - M1 97 13).toNat = kk → G X 1 RX10 cX10_next 1 none (Qv (fun M1 => IM M1 ∧ Fr (fun c => c = 97) M M1 ∧ M1 97 12 = M 97 12 ∧ M1 97 19 = M 97 19 ∧ M1 97 21 = M 97 21 ∧ M1 97 24 = M 97 24 ∧ M1 97 27 = M 97 27 ∧ M1 97 28 = M 97 28 ∧ M1 97 10 = M 97 10 ∧ M1 97 44 = M 97 44 ∧ M1 97 33 = M 97 33 ∧ M1 97 18 = M 97 18 ∧ M1 97 17 = M 97 17 ∧ ((NXQ (M 106) (M 97 12) (M 97 14) (M1 97 13) (M1 97 15) (M1 97 16) (M1 97 14)) ∧ M 97 14 ≤ M1 97 13 ∧ (0 ≤ M1 97 13 ∧ M1 97 13 ≤ M1 97 14 ∧ M1 97 14 ≤ M1 97 12) ∧ (0 ≤ M1 97 15 ∧ M1 97 15 ≤ 3) ∧ (M1 97 15 ≠ 0 → M1 97 13 < M1 97 14) ∧ (M1 97 15 = 2 → 0 ≤ M1 97 16 ∧ M1 97 16 ≤ 10000009)))) 8 [(0, vr X 97)] [] M1 := by
  intro kk
  induction kk using Nat.strongRecOn with
  | ind kk ih =>
    intro M1 ic1 fr1 q97_12 q97_19 q97_21 q97_24 q97_27 q97_28 q97_10 q97_44 q97_33 q97_18 q97_17 g1 sk hmes
    have p12 := hi.2.2.2.1
    refine g_aload_n (pc' := 9) 0 dX10_next_8 rfl rfl ?_
    refine g_getI (pc' := 12) dX10_next_9 rfl f_X10_161 rfl rfl (fun v1 ev1 rv1 => ?_)
    refine g_aload_n (pc' := 13) 0 dX10_next_12 rfl rfl ?_
    refine g_getI (pc' := 16) dX10_next_13 rfl f_X10_142 rfl rfl (fun v2 ev2 rv2 => ?_)
    have bv2 : 0 ≤ v2 ∧ v2 ≤ 400 := by rw [ev2]; exact ic1.2.2.2.1
    have av2 : v2 = M 97 12 := ev2.trans q97_12
    refine g_ic_ge (pc' := 19) (tgt := 46) rv1 rv2 dX10_next_16 rfl rfl (fun c3 => ?_) (fun c3 => ?_)
    · refine g_sub [0] rfl ?_
      exact j_X10_next_x_46 X M hi h14 M1 ic1 fr1 q97_12 q97_19 q97_21 q97_24 q97_27 q97_28 q97_10 q97_44 q97_33 q97_18 q97_17 (by omega) ⟨by omega, by omega, sk, fun z => absurd z (by omega)⟩
    · refine g_aload_n (pc' := 20) 0 dX10_next_19 rfl rfl ?_
      refine g_getR (pc' := 23) dX10_next_20 rfl f_X10_36 rfl rfl ?_
      refine g_aload_n (pc' := 24) 0 dX10_next_23 rfl rfl ?_
      refine g_getI (pc' := 27) dX10_next_24 rfl f_X10_161 rfl rfl (fun v4 ev4 rv4 => ?_)
      obtain rfl : v1 = v4 := ev1.trans ev4.symm
      refine g_iald (pc' := 28) dX10_next_27 rfl rfl (by omega) (by omega) (fun v5 ev5 rv5 => ?_)
      have gv5 : v5 = M 106 v1.toNat := by rw [ev5, fr1 106 (by decide)]
      refine g_bipush (pc' := 30) (v := 32) dX10_next_28 rfl (by decide) ?_
      refine g_ic_ne (pc' := 33) (tgt := 46) rv5 (by decide) dX10_next_30 rfl rfl (fun c6 => ?_) (fun c6 => ?_)
      · refine g_sub [0] rfl ?_
        exact j_X10_next_x_46 X M hi h14 M1 ic1 fr1 q97_12 q97_19 q97_21 q97_24 q97_27 q97_28 q97_10 q97_44 q97_33 q97_18 q97_17 (by omega) ⟨by omega, by omega, sk, fun _ => by rw [show (M1 97 13) = v1 by omega, ← gv5]; omega⟩
      · refine g_aload_n (pc' := 34) 0 dX10_next_33 rfl rfl ?_
        refine g_dup (pc' := 35) dX10_next_34 rfl rfl ?_
        refine g_getI (pc' := 38) dX10_next_35 rfl f_X10_161 rfl rfl (fun v7 ev7 rv7 => ?_)
        obtain rfl : v1 = v7 := ev1.trans ev7.symm
        refine g_iconst (pc' := 39) dX10_next_38 rfl ?_
        refine g_iadd (pc' := 40) dX10_next_39 rfl ?_
        refine g_putI (pc' := 43) dX10_next_40 rfl p_X10_161 rfl rfl ⟨by omega, by omega⟩ (fun M8 hM8 => ?_)
        have iM8 : IM M8 := IM.wr ic1 hM8 (by unfold okv; first | decide | omega)
        have fM8 : Fr (fun c => c = 97) M M8 := Fr.wr fr1 hM8 (by first | decide | omega | (dsimp only; omega))
        have q97_12_M8 : (M8 97 12 = M 97 12) := (show M8 97 12 = M1 97 12 by rw [hM8]; exact mu_ne _ _ (by first | decide | omega)).trans q97_12
        have q97_19_M8 : (M8 97 19 = M 97 19) := (show M8 97 19 = M1 97 19 by rw [hM8]; exact mu_ne _ _ (by first | decide | omega)).trans q97_19
        have q97_21_M8 : (M8 97 21 = M 97 21) := (show M8 97 21 = M1 97 21 by rw [hM8]; exact mu_ne _ _ (by first | decide | omega)).trans q97_21
        have q97_24_M8 : (M8 97 24 = M 97 24) := (show M8 97 24 = M1 97 24 by rw [hM8]; exact mu_ne _ _ (by first | decide | omega)).trans q97_24
        have q97_27_M8 : (M8 97 27 = M 97 27) := (show M8 97 27 = M1 97 27 by rw [hM8]; exact mu_ne _ _ (by first | decide | omega)).trans q97_27
        have q97_28_M8 : (M8 97 28 = M 97 28) := (show M8 97 28 = M1 97 28 by rw [hM8]; exact mu_ne _ _ (by first | decide | omega)).trans q97_28
        have q97_10_M8 : (M8 97 10 = M 97 10) := (show M8 97 10 = M1 97 10 by rw [hM8]; exact mu_ne _ _ (by first | decide | omega)).trans q97_10
        have q97_44_M8 : (M8 97 44 = M 97 44) := (show M8 97 44 = M1 97 44 by rw [hM8]; exact mu_ne _ _ (by first | decide | omega)).trans q97_44
        have q97_33_M8 : (M8 97 33 = M 97 33) := (show M8 97 33 = M1 97 33 by rw [hM8]; exact mu_ne _ _ (by first | decide | omega)).trans q97_33
        have q97_18_M8 : (M8 97 18 = M 97 18) := (show M8 97 18 = M1 97 18 by rw [hM8]; exact mu_ne _ _ (by first | decide | omega)).trans q97_18
        have q97_17_M8 : (M8 97 17 = M 97 17) := (show M8 97 17 = M1 97 17 by rw [hM8]; exact mu_ne _ _ (by first | decide | omega)).trans q97_17
        have wM8_97_14 : M8 97 14 = M1 97 14 := by rw [hM8]; exact mu_ne _ _ (by first | decide | omega)
        have wM8_97_15 : M8 97 15 = M1 97 15 := by rw [hM8]; exact mu_ne _ _ (by first | decide | omega)
        have wM8_97_16 : M8 97 16 = M1 97 16 := by rw [hM8]; exact mu_ne _ _ (by first | decide | omega)
        have xM8_97_13 : M8 97 13 = v1 + 1 := by rw [hM8]; exact mu_at _ _ _ _
        refine g_goto (tgt := 8) dX10_next_43 rfl ?_
        refine g_sub [0] rfl ?_
        exact ih _ (by omega) M8 iM8 fM8 q97_12_M8 q97_19_M8 q97_21_M8 q97_24_M8 q97_27_M8 q97_28_M8 q97_10_M8 q97_44_M8 q97_33_M8 q97_18_M8 q97_17_M8 (by omega) (fun j h1 h2 => by
            by_cases y : (j : Int) < M1 97 13
            · exact sk j h1 y
            · rw [show j = (v1).toNat by omega, ← gv5]; omega) rfl
set_option maxHeartbeats 4000000 in
set_option maxRecDepth 100000 in
theorem c_X10_next_x (X : Cx) (M : Mm) (hi : IM M) (h14 : 0 ≤ M 97 14 ∧ M 97 14 ≤ M 97 12) : Con X 1 yX10_next cX10_next 1 none [vr X 97] M (Qv (fun M1 => IM M1 ∧ Fr (fun c => c = 97) M M1 ∧ M1 97 12 = M 97 12 ∧ M1 97 19 = M 97 19 ∧ M1 97 21 = M 97 21 ∧ M1 97 24 = M 97 24 ∧ M1 97 27 = M 97 27 ∧ M1 97 28 = M 97 28 ∧ M1 97 10 = M 97 10 ∧ M1 97 44 = M 97 44 ∧ M1 97 33 = M 97 33 ∧ M1 97 18 = M 97 18 ∧ M1 97 17 = M 97 17 ∧ ((NXQ (M 106) (M 97 12) (M 97 14) (M1 97 13) (M1 97 15) (M1 97 16) (M1 97 14)) ∧ M 97 14 ≤ M1 97 13 ∧ (0 ≤ M1 97 13 ∧ M1 97 13 ≤ M1 97 14 ∧ M1 97 14 ≤ M1 97 12) ∧ (0 ≤ M1 97 15 ∧ M1 97 15 ≤ 3) ∧ (M1 97 15 ≠ 0 → M1 97 13 < M1 97 14) ∧ (M1 97 15 = 2 → 0 ≤ M1 97 16 ∧ M1 97 16 ≤ 10000009)))) := by
  refine Con.ofG rfl (Nat.le_of_ble_eq_true rfl) ?_
  show G X 1 RX10 cX10_next 1 none (Qv (fun M1 => IM M1 ∧ Fr (fun c => c = 97) M M1 ∧ M1 97 12 = M 97 12 ∧ M1 97 19 = M 97 19 ∧ M1 97 21 = M 97 21 ∧ M1 97 24 = M 97 24 ∧ M1 97 27 = M 97 27 ∧ M1 97 28 = M 97 28 ∧ M1 97 10 = M 97 10 ∧ M1 97 44 = M 97 44 ∧ M1 97 33 = M 97 33 ∧ M1 97 18 = M 97 18 ∧ M1 97 17 = M 97 17 ∧ ((NXQ (M 106) (M 97 12) (M 97 14) (M1 97 13) (M1 97 15) (M1 97 16) (M1 97 14)) ∧ M 97 14 ≤ M1 97 13 ∧ (0 ≤ M1 97 13 ∧ M1 97 13 ≤ M1 97 14 ∧ M1 97 14 ≤ M1 97 12) ∧ (0 ≤ M1 97 15 ∧ M1 97 15 ≤ 3) ∧ (M1 97 15 ≠ 0 → M1 97 13 < M1 97 14) ∧ (M1 97 15 = 2 → 0 ≤ M1 97 16 ∧ M1 97 16 ≤ 10000009)))) 0 [(0, vr X 97)] [] M
  have p12 := hi.2.2.2.1
  refine g_aload_n (pc' := 1) 0 dX10_next_0 rfl rfl ?_
  refine g_aload_n (pc' := 2) 0 dX10_next_1 rfl rfl ?_
  refine g_getI (pc' := 5) dX10_next_2 rfl f_X10_151 rfl rfl (fun v1 ev1 rv1 => ?_)
  refine g_putI (pc' := 8) dX10_next_5 rfl p_X10_161 rfl rfl rv1 (fun M2 hM2 => ?_)
  have iM2 : IM M2 := IM.wr hi hM2 (by unfold okv; first | decide | omega)
  have fM2 : Fr (fun c => c = 97) M M2 := Fr.wr Fr.rf hM2 (by first | decide | omega | (dsimp only; omega))
  have q97_12_M2 : (M2 97 12 = M 97 12) := (show M2 97 12 = M 97 12 by rw [hM2]; exact mu_ne _ _ (by first | decide | omega))
  have q97_19_M2 : (M2 97 19 = M 97 19) := (show M2 97 19 = M 97 19 by rw [hM2]; exact mu_ne _ _ (by first | decide | omega))
  have q97_21_M2 : (M2 97 21 = M 97 21) := (show M2 97 21 = M 97 21 by rw [hM2]; exact mu_ne _ _ (by first | decide | omega))
  have q97_24_M2 : (M2 97 24 = M 97 24) := (show M2 97 24 = M 97 24 by rw [hM2]; exact mu_ne _ _ (by first | decide | omega))
  have q97_27_M2 : (M2 97 27 = M 97 27) := (show M2 97 27 = M 97 27 by rw [hM2]; exact mu_ne _ _ (by first | decide | omega))
  have q97_28_M2 : (M2 97 28 = M 97 28) := (show M2 97 28 = M 97 28 by rw [hM2]; exact mu_ne _ _ (by first | decide | omega))
  have q97_10_M2 : (M2 97 10 = M 97 10) := (show M2 97 10 = M 97 10 by rw [hM2]; exact mu_ne _ _ (by first | decide | omega))
  have q97_44_M2 : (M2 97 44 = M 97 44) := (show M2 97 44 = M 97 44 by rw [hM2]; exact mu_ne _ _ (by first | decide | omega))
  have q97_33_M2 : (M2 97 33 = M 97 33) := (show M2 97 33 = M 97 33 by rw [hM2]; exact mu_ne _ _ (by first | decide | omega))
  have q97_18_M2 : (M2 97 18 = M 97 18) := (show M2 97 18 = M 97 18 by rw [hM2]; exact mu_ne _ _ (by first | decide | omega))
  have q97_17_M2 : (M2 97 17 = M 97 17) := (show M2 97 17 = M 97 17 by rw [hM2]; exact mu_ne _ _ (by first | decide | omega))
  have wM2_97_14 : M2 97 14 = M 97 14 := by rw [hM2]; exact mu_ne _ _ (by first | decide | omega)
  have wM2_97_15 : M2 97 15 = M 97 15 := by rw [hM2]; exact mu_ne _ _ (by first | decide | omega)
  have wM2_97_16 : M2 97 16 = M 97 16 := by rw [hM2]; exact mu_ne _ _ (by first | decide | omega)
  have xM2_97_13 : M2 97 13 = v1 := by rw [hM2]; exact mu_at _ _ _ _
  refine g_sub [0] rfl ?_
  exact l_X10_next_x_8 X M hi h14 _ M2 iM2 fM2 q97_12_M2 q97_19_M2 q97_21_M2 q97_24_M2 q97_27_M2 q97_28_M2 q97_10_M2 q97_44_M2 q97_33_M2 q97_18_M2 q97_17_M2 (by omega) (fun j h1 h2 => by omega) rfl
set_option maxHeartbeats 4000000 in
set_option maxRecDepth 100000 in
theorem c_X10_begin_x (X : Cx) (M : Mm) (hi : IM M) : Con X 2 yX10_begin cX10_begin 1 none [vr X 97] M (Qv (fun M1 => IM M1 ∧ Fr (fun c => c = 97) M M1 ∧ M1 97 12 = M 97 12 ∧ M1 97 19 = M 97 19 ∧ M1 97 21 = M 97 21 ∧ M1 97 24 = M 97 24 ∧ M1 97 27 = M 97 27 ∧ M1 97 28 = M 97 28 ∧ M1 97 10 = M 97 10 ∧ M1 97 44 = M 97 44 ∧ M1 97 33 = M 97 33 ∧ ((M1 97 17 = -1 ∧ NXQ (M 106) (M 97 12) 0 (M1 97 13) (M1 97 15) (M1 97 16) (M1 97 14)) ∧ M1 97 18 = 0 ∧ (0 ≤ M1 97 13 ∧ M1 97 13 ≤ M1 97 14 ∧ M1 97 14 ≤ M1 97 12) ∧ (0 ≤ M1 97 15 ∧ M1 97 15 ≤ 3) ∧ (M1 97 15 ≠ 0 → M1 97 13 < M1 97 14) ∧ (M1 97 15 = 2 → 0 ≤ M1 97 16 ∧ M1 97 16 ≤ 10000009)))) := by
  refine Con.ofG rfl (Nat.le_of_ble_eq_true rfl) ?_
  show G X 2 RX10 cX10_begin 1 none (Qv (fun M1 => IM M1 ∧ Fr (fun c => c = 97) M M1 ∧ M1 97 12 = M 97 12 ∧ M1 97 19 = M 97 19 ∧ M1 97 21 = M 97 21 ∧ M1 97 24 = M 97 24 ∧ M1 97 27 = M 97 27 ∧ M1 97 28 = M 97 28 ∧ M1 97 10 = M 97 10 ∧ M1 97 44 = M 97 44 ∧ M1 97 33 = M 97 33 ∧ ((M1 97 17 = -1 ∧ NXQ (M 106) (M 97 12) 0 (M1 97 13) (M1 97 15) (M1 97 16) (M1 97 14)) ∧ M1 97 18 = 0 ∧ (0 ≤ M1 97 13 ∧ M1 97 13 ≤ M1 97 14 ∧ M1 97 14 ≤ M1 97 12) ∧ (0 ≤ M1 97 15 ∧ M1 97 15 ≤ 3) ∧ (M1 97 15 ≠ 0 → M1 97 13 < M1 97 14) ∧ (M1 97 15 = 2 → 0 ≤ M1 97 16 ∧ M1 97 16 ≤ 10000009)))) 0 [(0, vr X 97)] [] M
  have p12 := hi.2.2.2.1
  refine g_aload_n (pc' := 1) 0 dX10_begin_0 rfl rfl ?_
  refine g_iconst (pc' := 2) dX10_begin_1 rfl ?_
  refine g_putI (pc' := 5) dX10_begin_2 rfl p_X10_151 rfl rfl (by decide) (fun M1 hM1 => ?_)
  have iM1 : IM M1 := IM.wr hi hM1 (by unfold okv; first | decide | omega)
  have fM1 : Fr (fun c => c = 97) M M1 := Fr.wr Fr.rf hM1 (by first | decide | omega | (dsimp only; omega))
  have q97_12_M1 : (M1 97 12 = M 97 12) := (show M1 97 12 = M 97 12 by rw [hM1]; exact mu_ne _ _ (by first | decide | omega))
  have q97_19_M1 : (M1 97 19 = M 97 19) := (show M1 97 19 = M 97 19 by rw [hM1]; exact mu_ne _ _ (by first | decide | omega))
  have q97_21_M1 : (M1 97 21 = M 97 21) := (show M1 97 21 = M 97 21 by rw [hM1]; exact mu_ne _ _ (by first | decide | omega))
  have q97_24_M1 : (M1 97 24 = M 97 24) := (show M1 97 24 = M 97 24 by rw [hM1]; exact mu_ne _ _ (by first | decide | omega))
  have q97_27_M1 : (M1 97 27 = M 97 27) := (show M1 97 27 = M 97 27 by rw [hM1]; exact mu_ne _ _ (by first | decide | omega))
  have q97_28_M1 : (M1 97 28 = M 97 28) := (show M1 97 28 = M 97 28 by rw [hM1]; exact mu_ne _ _ (by first | decide | omega))
  have q97_10_M1 : (M1 97 10 = M 97 10) := (show M1 97 10 = M 97 10 by rw [hM1]; exact mu_ne _ _ (by first | decide | omega))
  have q97_44_M1 : (M1 97 44 = M 97 44) := (show M1 97 44 = M 97 44 by rw [hM1]; exact mu_ne _ _ (by first | decide | omega))
  have q97_33_M1 : (M1 97 33 = M 97 33) := (show M1 97 33 = M 97 33 by rw [hM1]; exact mu_ne _ _ (by first | decide | omega))
  have wM1_97_12 : M1 97 12 = M 97 12 := by rw [hM1]; exact mu_ne _ _ (by first | decide | omega)
  have xM1_97_14 : M1 97 14 = 0 := by rw [hM1]; exact mu_at _ _ _ _
  refine g_aload_n (pc' := 6) 0 dX10_begin_5 rfl rfl ?_
  refine g_iconst (pc' := 7) dX10_begin_6 rfl ?_
  refine g_putZ (pc' := 10) dX10_begin_7 rfl p_X10_154 rfl rfl (by omega) (fun M2 hM2 => ?_)
  have iM2 : IM M2 := IM.wr iM1 hM2 (by unfold okv; first | decide | omega)
  have fM2 : Fr (fun c => c = 97) M M2 := Fr.wr fM1 hM2 (by first | decide | omega | (dsimp only; omega))
  have q97_12_M2 : (M2 97 12 = M 97 12) := (show M2 97 12 = M1 97 12 by rw [hM2]; exact mu_ne _ _ (by first | decide | omega)).trans q97_12_M1
  have q97_19_M2 : (M2 97 19 = M 97 19) := (show M2 97 19 = M1 97 19 by rw [hM2]; exact mu_ne _ _ (by first | decide | omega)).trans q97_19_M1
  have q97_21_M2 : (M2 97 21 = M 97 21) := (show M2 97 21 = M1 97 21 by rw [hM2]; exact mu_ne _ _ (by first | decide | omega)).trans q97_21_M1
  have q97_24_M2 : (M2 97 24 = M 97 24) := (show M2 97 24 = M1 97 24 by rw [hM2]; exact mu_ne _ _ (by first | decide | omega)).trans q97_24_M1
  have q97_27_M2 : (M2 97 27 = M 97 27) := (show M2 97 27 = M1 97 27 by rw [hM2]; exact mu_ne _ _ (by first | decide | omega)).trans q97_27_M1
  have q97_28_M2 : (M2 97 28 = M 97 28) := (show M2 97 28 = M1 97 28 by rw [hM2]; exact mu_ne _ _ (by first | decide | omega)).trans q97_28_M1
  have q97_10_M2 : (M2 97 10 = M 97 10) := (show M2 97 10 = M1 97 10 by rw [hM2]; exact mu_ne _ _ (by first | decide | omega)).trans q97_10_M1
  have q97_44_M2 : (M2 97 44 = M 97 44) := (show M2 97 44 = M1 97 44 by rw [hM2]; exact mu_ne _ _ (by first | decide | omega)).trans q97_44_M1
  have q97_33_M2 : (M2 97 33 = M 97 33) := (show M2 97 33 = M1 97 33 by rw [hM2]; exact mu_ne _ _ (by first | decide | omega)).trans q97_33_M1
  have wM2_97_14 : M2 97 14 = M1 97 14 := by rw [hM2]; exact mu_ne _ _ (by first | decide | omega)
  have wM2_97_12 : M2 97 12 = M1 97 12 := by rw [hM2]; exact mu_ne _ _ (by first | decide | omega)
  have xM2_97_14 : M2 97 14 = 0 := (show M2 97 14 = M1 97 14 by rw [hM2]; exact mu_ne _ _ (by first | decide | omega)).trans xM1_97_14
  have xM2_97_18 : M2 97 18 = 0 := by rw [hM2]; exact mu_at _ _ _ _
  refine g_aload_n (pc' := 11) 0 dX10_begin_10 rfl rfl ?_
  refine g_iconst (pc' := 12) dX10_begin_11 rfl ?_
  refine g_putI (pc' := 15) dX10_begin_12 rfl p_X10_39 rfl rfl (by decide) (fun M3 hM3 => ?_)
  have iM3 : IM M3 := IM.wr iM2 hM3 (by unfold okv; first | decide | omega)
  have fM3 : Fr (fun c => c = 97) M M3 := Fr.wr fM2 hM3 (by first | decide | omega | (dsimp only; omega))
  have q97_12_M3 : (M3 97 12 = M 97 12) := (show M3 97 12 = M2 97 12 by rw [hM3]; exact mu_ne _ _ (by first | decide | omega)).trans q97_12_M2
  have q97_19_M3 : (M3 97 19 = M 97 19) := (show M3 97 19 = M2 97 19 by rw [hM3]; exact mu_ne _ _ (by first | decide | omega)).trans q97_19_M2
  have q97_21_M3 : (M3 97 21 = M 97 21) := (show M3 97 21 = M2 97 21 by rw [hM3]; exact mu_ne _ _ (by first | decide | omega)).trans q97_21_M2
  have q97_24_M3 : (M3 97 24 = M 97 24) := (show M3 97 24 = M2 97 24 by rw [hM3]; exact mu_ne _ _ (by first | decide | omega)).trans q97_24_M2
  have q97_27_M3 : (M3 97 27 = M 97 27) := (show M3 97 27 = M2 97 27 by rw [hM3]; exact mu_ne _ _ (by first | decide | omega)).trans q97_27_M2
  have q97_28_M3 : (M3 97 28 = M 97 28) := (show M3 97 28 = M2 97 28 by rw [hM3]; exact mu_ne _ _ (by first | decide | omega)).trans q97_28_M2
  have q97_10_M3 : (M3 97 10 = M 97 10) := (show M3 97 10 = M2 97 10 by rw [hM3]; exact mu_ne _ _ (by first | decide | omega)).trans q97_10_M2
  have q97_44_M3 : (M3 97 44 = M 97 44) := (show M3 97 44 = M2 97 44 by rw [hM3]; exact mu_ne _ _ (by first | decide | omega)).trans q97_44_M2
  have q97_33_M3 : (M3 97 33 = M 97 33) := (show M3 97 33 = M2 97 33 by rw [hM3]; exact mu_ne _ _ (by first | decide | omega)).trans q97_33_M2
  have wM3_97_14 : M3 97 14 = M2 97 14 := by rw [hM3]; exact mu_ne _ _ (by first | decide | omega)
  have wM3_97_12 : M3 97 12 = M2 97 12 := by rw [hM3]; exact mu_ne _ _ (by first | decide | omega)
  have xM3_97_14 : M3 97 14 = 0 := (show M3 97 14 = M2 97 14 by rw [hM3]; exact mu_ne _ _ (by first | decide | omega)).trans xM2_97_14
  have xM3_97_18 : M3 97 18 = 0 := (show M3 97 18 = M2 97 18 by rw [hM3]; exact mu_ne _ _ (by first | decide | omega)).trans xM2_97_18
  have xM3_97_17 : M3 97 17 = (-1) := by rw [hM3]; exact mu_at _ _ _ _
  refine g_aload_n (pc' := 16) 0 dX10_begin_15 rfl rfl ?_
  refine g_callVv (pc' := 19) (As := []) (b := 97) (S := []) dX10_begin_16 rfl m_X10_158 w_X10_next (c_X10_next_x X M3 iM3 (by omega)) rfl ⟨_, _, _, rfl, rfl, rfl⟩ (by decide) (by decide) rfl (Nat.le_of_ble_eq_true rfl) (fun M5 q4 => ?_)
  obtain ⟨iM5, fM50, eM5_97_12, eM5_97_19, eM5_97_21, eM5_97_24, eM5_97_27, eM5_97_28, eM5_97_10, eM5_97_44, eM5_97_33, eM5_97_18, eM5_97_17, pM5⟩ := q4
  have fM5 : Fr (fun c => c = 97) M M5 := Fr.tr fM3 fM50 (fun _ z => z)
  have q97_12_M5 : (M5 97 12 = M 97 12) := eM5_97_12.trans q97_12_M3
  have q97_19_M5 : (M5 97 19 = M 97 19) := eM5_97_19.trans q97_19_M3
  have q97_21_M5 : (M5 97 21 = M 97 21) := eM5_97_21.trans q97_21_M3
  have q97_24_M5 : (M5 97 24 = M 97 24) := eM5_97_24.trans q97_24_M3
  have q97_27_M5 : (M5 97 27 = M 97 27) := eM5_97_27.trans q97_27_M3
  have q97_28_M5 : (M5 97 28 = M 97 28) := eM5_97_28.trans q97_28_M3
  have q97_10_M5 : (M5 97 10 = M 97 10) := eM5_97_10.trans q97_10_M3
  have q97_44_M5 : (M5 97 44 = M 97 44) := eM5_97_44.trans q97_44_M3
  have q97_33_M5 : (M5 97 33 = M 97 33) := eM5_97_33.trans q97_33_M3
  have wM5_97_12 : M5 97 12 = M3 97 12 := eM5_97_12
  have xM5_97_18 : M5 97 18 = 0 := eM5_97_18.trans xM3_97_18
  have xM5_97_17 : M5 97 17 = (-1) := eM5_97_17.trans xM3_97_17
  obtain ⟨nqM5, pM5⟩ := pM5
  rw [fM3 106 (by decide), show M3 97 12 = M 97 12 by omega, show M3 97 14 = 0 by omega] at nqM5
  refine g_vreturn dX10_begin_19 ?_
  exact ⟨iM5, fM5, q97_12_M5, q97_19_M5, q97_21_M5, q97_24_M5, q97_27_M5, q97_28_M5, q97_10_M5, q97_44_M5, q97_33_M5, ⟨by omega, nqM5⟩, by omega, by omega, by omega, by omega, by omega⟩
set_option maxHeartbeats 4000000 in
set_option maxRecDepth 100000 in
theorem c_X10_isWord_x (X : Cx) (M : Mm) (hi : IM M) (a : Int) (ha : inL a) : Con X 0 yX10_isWord cX10_isWord 3 (some .boolean) [vr X 97, vl a] M (Qi (fun r M1 => M1 = M ∧ ((r = 1 ∧ M 97 15 = 1 ∧ M 97 16 = a) ∨ (r = 0 ∧ ¬ (M 97 15 = 1 ∧ M 97 16 = a))))) := by
  refine Con.ofG rfl (Nat.le_of_ble_eq_true rfl) ?_
  show G X 0 RX10 cX10_isWord 3 (some .boolean) (Qi (fun r M1 => M1 = M ∧ ((r = 1 ∧ M 97 15 = 1 ∧ M 97 16 = a) ∨ (r = 0 ∧ ¬ (M 97 15 = 1 ∧ M 97 16 = a))))) 0 [(0, vr X 97), (1, vl a)] [] M
  refine g_aload_n (pc' := 1) 0 dX10_isWord_0 rfl rfl ?_
  refine g_getI (pc' := 4) dX10_isWord_1 rfl f_X10_174 rfl rfl (fun v1 ev1 rv1 => ?_)
  refine g_iconst (pc' := 5) dX10_isWord_4 rfl ?_
  refine g_ic_ne (pc' := 8) (tgt := 21) rv1 (by decide) dX10_isWord_5 rfl rfl (fun c2 => ?_) (fun c2 => ?_)
  · refine g_iconst (pc' := 22) dX10_isWord_21 rfl ?_
    refine g_zreturn dX10_isWord_22 (by omega) ?_
    exact ⟨rfl, by omega⟩
  · refine g_aload_n (pc' := 9) 0 dX10_isWord_8 rfl rfl ?_
    refine g_getL (pc' := 12) dX10_isWord_9 rfl f_X10_164 rfl rfl (fun v3 ev3 rv3 => ?_)
    refine g_lload_n (pc' := 13) 1 dX10_isWord_12 rfl rfl ?_
    refine g_lc_ne (pc' := 17) (tgt := 21) rv3 ha dX10_isWord_13 dX10_isWord_14 rfl rfl (fun c4 => ?_) (fun c4 => ?_)
    · refine g_iconst (pc' := 22) dX10_isWord_21 rfl ?_
      refine g_zreturn dX10_isWord_22 (by omega) ?_
      exact ⟨rfl, by omega⟩
    · refine g_iconst (pc' := 18) dX10_isWord_17 rfl ?_
      refine g_goto (tgt := 22) dX10_isWord_18 rfl ?_
      refine g_zreturn dX10_isWord_22 (by omega) ?_
      exact ⟨rfl, by omega⟩
set_option maxHeartbeats 4000000 in
set_option maxRecDepth 100000 in
theorem c_X10_isSign_x (X : Cx) (M : Mm) (hi : IM M) (a : Int) (ha : inI a) : Con X 0 yX10_isSign cX10_isSign 2 (some .boolean) [vr X 97, vi a] M (Qi (fun r M1 => M1 = M ∧ ((r = 1 ∧ M 97 15 = 3 ∧ M 97 16 = a) ∨ (r = 0 ∧ ¬ (M 97 15 = 3 ∧ M 97 16 = a))))) := by
  refine Con.ofG rfl (Nat.le_of_ble_eq_true rfl) ?_
  show G X 0 RX10 cX10_isSign 2 (some .boolean) (Qi (fun r M1 => M1 = M ∧ ((r = 1 ∧ M 97 15 = 3 ∧ M 97 16 = a) ∨ (r = 0 ∧ ¬ (M 97 15 = 3 ∧ M 97 16 = a))))) 0 [(0, vr X 97), (1, vi a)] [] M
  refine g_aload_n (pc' := 1) 0 dX10_isSign_0 rfl rfl ?_
  refine g_getI (pc' := 4) dX10_isSign_1 rfl f_X10_174 rfl rfl (fun v1 ev1 rv1 => ?_)
  refine g_iconst (pc' := 5) dX10_isSign_4 rfl ?_
  refine g_ic_ne (pc' := 8) (tgt := 22) rv1 (by decide) dX10_isSign_5 rfl rfl (fun c2 => ?_) (fun c2 => ?_)
  · refine g_iconst (pc' := 23) dX10_isSign_22 rfl ?_
    refine g_zreturn dX10_isSign_23 (by omega) ?_
    exact ⟨rfl, by omega⟩
  · refine g_aload_n (pc' := 9) 0 dX10_isSign_8 rfl rfl ?_
    refine g_getL (pc' := 12) dX10_isSign_9 rfl f_X10_164 rfl rfl (fun v3 ev3 rv3 => ?_)
    refine g_iload_n (pc' := 13) 1 dX10_isSign_12 rfl rfl ?_
    refine g_i2l (pc' := 14) ha dX10_isSign_13 rfl ?_
    refine g_lc_ne (pc' := 18) (tgt := 22) rv3 ⟨by omega, by omega⟩ dX10_isSign_14 dX10_isSign_15 rfl rfl (fun c4 => ?_) (fun c4 => ?_)
    · refine g_iconst (pc' := 23) dX10_isSign_22 rfl ?_
      refine g_zreturn dX10_isSign_23 (by omega) ?_
      exact ⟨rfl, by omega⟩
    · refine g_iconst (pc' := 19) dX10_isSign_18 rfl ?_
      refine g_goto (tgt := 23) dX10_isSign_19 rfl ?_
      refine g_zreturn dX10_isSign_23 (by omega) ?_
      exact ⟨rfl, by omega⟩
set_option maxHeartbeats 4000000 in
set_option maxRecDepth 100000 in
theorem c_X10_must_x (X : Cx) (M : Mm) (hi : IM M) (a : Int) (ha : inI a) (htk : (0 ≤ M 97 13 ∧ M 97 13 ≤ M 97 14 ∧ M 97 14 ≤ M 97 12) ∧ (0 ≤ M 97 15 ∧ M 97 15 ≤ 3) ∧ (M 97 15 ≠ 0 → M 97 13 < M 97 14) ∧ (M 97 15 = 2 → 0 ≤ M 97 16 ∧ M 97 16 ≤ 10000009)) : Con X 2 yX10_must cX10_must 2 none [vr X 97, vi a] M (Qv (fun M1 => IM M1 ∧ Fr (fun c => c = 97) M M1 ∧ M1 97 12 = M 97 12 ∧ M1 97 19 = M 97 19 ∧ M1 97 21 = M 97 21 ∧ M1 97 24 = M 97 24 ∧ M1 97 27 = M 97 27 ∧ M1 97 28 = M 97 28 ∧ M1 97 10 = M 97 10 ∧ M1 97 44 = M 97 44 ∧ M1 97 33 = M 97 33 ∧ (MUQ M M1 a ∧ M 97 13 ≤ M1 97 13 ∧ (M 97 18 ≠ 0 → M1 97 18 ≠ 0) ∧ (M1 97 18 = 0 → a ≠ 0 ∧ M 97 18 = 0 ∧ M 97 14 ≤ M1 97 13) ∧ (0 ≤ M1 97 13 ∧ M1 97 13 ≤ M1 97 14 ∧ M1 97 14 ≤ M1 97 12) ∧ (0 ≤ M1 97 15 ∧ M1 97 15 ≤ 3) ∧ (M1 97 15 ≠ 0 → M1 97 13 < M1 97 14) ∧ (M1 97 15 = 2 → 0 ≤ M1 97 16 ∧ M1 97 16 ≤ 10000009)))) := by
  refine Con.ofG rfl (Nat.le_of_ble_eq_true rfl) ?_
  show G X 2 RX10 cX10_must 2 none (Qv (fun M1 => IM M1 ∧ Fr (fun c => c = 97) M M1 ∧ M1 97 12 = M 97 12 ∧ M1 97 19 = M 97 19 ∧ M1 97 21 = M 97 21 ∧ M1 97 24 = M 97 24 ∧ M1 97 27 = M 97 27 ∧ M1 97 28 = M 97 28 ∧ M1 97 10 = M 97 10 ∧ M1 97 44 = M 97 44 ∧ M1 97 33 = M 97 33 ∧ (MUQ M M1 a ∧ M 97 13 ≤ M1 97 13 ∧ (M 97 18 ≠ 0 → M1 97 18 ≠ 0) ∧ (M1 97 18 = 0 → a ≠ 0 ∧ M 97 18 = 0 ∧ M 97 14 ≤ M1 97 13) ∧ (0 ≤ M1 97 13 ∧ M1 97 13 ≤ M1 97 14 ∧ M1 97 14 ≤ M1 97 12) ∧ (0 ≤ M1 97 15 ∧ M1 97 15 ≤ 3) ∧ (M1 97 15 ≠ 0 → M1 97 13 < M1 97 14) ∧ (M1 97 15 = 2 → 0 ≤ M1 97 16 ∧ M1 97 16 ≤ 10000009)))) 0 [(0, vr X 97), (1, vi a)] [] M
  have p12 := hi.2.2.2.1
  refine g_aload_n (pc' := 1) 0 dX10_must_0 rfl rfl ?_
  refine g_getI (pc' := 4) dX10_must_1 rfl f_X10_154 rfl rfl (fun v1 ev1 rv1 => ?_)
  refine g_if_ne (pc' := 7) (tgt := 24) rv1 dX10_must_4 rfl rfl (fun c2 => ?_) (fun c2 => ?_)
  · refine g_aload_n (pc' := 25) 0 dX10_must_24 rfl rfl ?_
    refine g_getI (pc' := 28) dX10_must_25 rfl f_X10_154 rfl rfl (fun v3 ev3 rv3 => ?_)
    obtain rfl : v1 = v3 := ev1.trans ev3.symm
    refine g_if_ne (pc' := 31) (tgt := 35) rv1 dX10_must_28 rfl rfl (fun c4 => ?_) (fun c4 => ?_)
    · refine g_vreturn dX10_must_35 ?_
      exact ⟨hi, Fr.rf, rfl, rfl, rfl, rfl, rfl, rfl, rfl, rfl, rfl, ⟨fun z y => by omega, fun z y => by omega, fun z => by omega⟩, by omega, by omega, by omega, by omega, by omega, by omega, by omega⟩
    · refine g_aload_n (pc' := 32) 0 dX10_must_31 rfl rfl ?_
      refine g_callVv (pc' := 35) (As := []) (b := 97) (S := []) dX10_must_32 rfl m_X10_158 w_X10_next (c_X10_next_x X M hi (by omega)) rfl ⟨_, _, _, rfl, rfl, rfl⟩ (by decide) (by decide) rfl (Nat.le_of_ble_eq_true rfl) (fun M6 q5 => ?_)
      obtain ⟨iM6, fM60, eM6_97_12, eM6_97_19, eM6_97_21, eM6_97_24, eM6_97_27, eM6_97_28, eM6_97_10, eM6_97_44, eM6_97_33, eM6_97_18, eM6_97_17, pM6⟩ := q5
      have fM6 : Fr (fun c => c = 97) M M6 := Fr.tr Fr.rf fM60 (fun _ z => z)
      have q97_12_M6 : (M6 97 12 = M 97 12) := eM6_97_12
      have q97_19_M6 : (M6 97 19 = M 97 19) := eM6_97_19
      have q97_21_M6 : (M6 97 21 = M 97 21) := eM6_97_21
      have q97_24_M6 : (M6 97 24 = M 97 24) := eM6_97_24
      have q97_27_M6 : (M6 97 27 = M 97 27) := eM6_97_27
      have q97_28_M6 : (M6 97 28 = M 97 28) := eM6_97_28
      have q97_10_M6 : (M6 97 10 = M 97 10) := eM6_97_10
      have q97_44_M6 : (M6 97 44 = M 97 44) := eM6_97_44
      have q97_33_M6 : (M6 97 33 = M 97 33) := eM6_97_33
      have wM6_97_17 : M6 97 17 = M 97 17 := eM6_97_17
      have wM6_97_18 : M6 97 18 = M 97 18 := eM6_97_18
      obtain ⟨nqM6, pM6⟩ := pM6
      refine g_vreturn dX10_must_35 ?_
      exact ⟨iM6, fM6, q97_12_M6, q97_19_M6, q97_21_M6, q97_24_M6, q97_27_M6, q97_28_M6, q97_10_M6, q97_44_M6, q97_33_M6, ⟨fun _ _ => (by first | exact ⟨by omega, by omega, nqM6⟩ | exact False.elim (by omega)), fun _ z => by omega, fun z => by omega⟩, by omega, by omega, by omega, by omega, by omega, by omega, by omega⟩
  · refine g_iload_n (pc' := 8) 1 dX10_must_7 rfl rfl ?_
    refine g_if_ne (pc' := 11) (tgt := 24) ha dX10_must_8 rfl rfl (fun c7 => ?_) (fun c7 => ?_)
    · refine g_aload_n (pc' := 25) 0 dX10_must_24 rfl rfl ?_
      refine g_getI (pc' := 28) dX10_must_25 rfl f_X10_154 rfl rfl (fun v8 ev8 rv8 => ?_)
      obtain rfl : v1 = v8 := ev1.trans ev8.symm
      refine g_if_ne (pc' := 31) (tgt := 35) rv1 dX10_must_28 rfl rfl (fun c9 => ?_) (fun c9 => ?_)
      · refine g_vreturn dX10_must_35 ?_
        exact ⟨hi, Fr.rf, rfl, rfl, rfl, rfl, rfl, rfl, rfl, rfl, rfl, ⟨fun z y => by omega, fun z y => by omega, fun z => by omega⟩, by omega, by omega, by omega, by omega, by omega, by omega, by omega⟩
      · refine g_aload_n (pc' := 32) 0 dX10_must_31 rfl rfl ?_
        refine g_callVv (pc' := 35) (As := []) (b := 97) (S := []) dX10_must_32 rfl m_X10_158 w_X10_next (c_X10_next_x X M hi (by omega)) rfl ⟨_, _, _, rfl, rfl, rfl⟩ (by decide) (by decide) rfl (Nat.le_of_ble_eq_true rfl) (fun M11 q10 => ?_)
        obtain ⟨iM11, fM110, eM11_97_12, eM11_97_19, eM11_97_21, eM11_97_24, eM11_97_27, eM11_97_28, eM11_97_10, eM11_97_44, eM11_97_33, eM11_97_18, eM11_97_17, pM11⟩ := q10
        have fM11 : Fr (fun c => c = 97) M M11 := Fr.tr Fr.rf fM110 (fun _ z => z)
        have q97_12_M11 : (M11 97 12 = M 97 12) := eM11_97_12
        have q97_19_M11 : (M11 97 19 = M 97 19) := eM11_97_19
        have q97_21_M11 : (M11 97 21 = M 97 21) := eM11_97_21
        have q97_24_M11 : (M11 97 24 = M 97 24) := eM11_97_24
        have q97_27_M11 : (M11 97 27 = M 97 27) := eM11_97_27
        have q97_28_M11 : (M11 97 28 = M 97 28) := eM11_97_28
        have q97_10_M11 : (M11 97 10 = M 97 10) := eM11_97_10
        have q97_44_M11 : (M11 97 44 = M 97 44) := eM11_97_44
        have q97_33_M11 : (M11 97 33 = M 97 33) := eM11_97_33
        have wM11_97_17 : M11 97 17 = M 97 17 := eM11_97_17
        have wM11_97_18 : M11 97 18 = M 97 18 := eM11_97_18
        obtain ⟨nqM11, pM11⟩ := pM11
        refine g_vreturn dX10_must_35 ?_
        exact ⟨iM11, fM11, q97_12_M11, q97_19_M11, q97_21_M11, q97_24_M11, q97_27_M11, q97_28_M11, q97_10_M11, q97_44_M11, q97_33_M11, ⟨fun _ _ => (by first | exact ⟨by omega, by omega, nqM11⟩ | exact False.elim (by omega)), fun _ z => by omega, fun z => by omega⟩, by omega, by omega, by omega, by omega, by omega, by omega, by omega⟩
    · refine g_aload_n (pc' := 12) 0 dX10_must_11 rfl rfl ?_
      refine g_iconst (pc' := 13) dX10_must_12 rfl ?_
      refine g_putZ (pc' := 16) dX10_must_13 rfl p_X10_154 rfl rfl (by omega) (fun M12 hM12 => ?_)
      have iM12 : IM M12 := IM.wr hi hM12 (by unfold okv; first | decide | omega)
      have fM12 : Fr (fun c => c = 97) M M12 := Fr.wr Fr.rf hM12 (by first | decide | omega | (dsimp only; omega))
      have q97_12_M12 : (M12 97 12 = M 97 12) := (show M12 97 12 = M 97 12 by rw [hM12]; exact mu_ne _ _ (by first | decide | omega))
      have q97_19_M12 : (M12 97 19 = M 97 19) := (show M12 97 19 = M 97 19 by rw [hM12]; exact mu_ne _ _ (by first | decide | omega))
      have q97_21_M12 : (M12 97 21 = M 97 21) := (show M12 97 21 = M 97 21 by rw [hM12]; exact mu_ne _ _ (by first | decide | omega))
      have q97_24_M12 : (M12 97 24 = M 97 24) := (show M12 97 24 = M 97 24 by rw [hM12]; exact mu_ne _ _ (by first | decide | omega))
      have q97_27_M12 : (M12 97 27 = M 97 27) := (show M12 97 27 = M 97 27 by rw [hM12]; exact mu_ne _ _ (by first | decide | omega))
      have q97_28_M12 : (M12 97 28 = M 97 28) := (show M12 97 28 = M 97 28 by rw [hM12]; exact mu_ne _ _ (by first | decide | omega))
      have q97_10_M12 : (M12 97 10 = M 97 10) := (show M12 97 10 = M 97 10 by rw [hM12]; exact mu_ne _ _ (by first | decide | omega))
      have q97_44_M12 : (M12 97 44 = M 97 44) := (show M12 97 44 = M 97 44 by rw [hM12]; exact mu_ne _ _ (by first | decide | omega))
      have q97_33_M12 : (M12 97 33 = M 97 33) := (show M12 97 33 = M 97 33 by rw [hM12]; exact mu_ne _ _ (by first | decide | omega))
      have wM12_97_13 : M12 97 13 = M 97 13 := by rw [hM12]; exact mu_ne _ _ (by first | decide | omega)
      have wM12_97_14 : M12 97 14 = M 97 14 := by rw [hM12]; exact mu_ne _ _ (by first | decide | omega)
      have wM12_97_15 : M12 97 15 = M 97 15 := by rw [hM12]; exact mu_ne _ _ (by first | decide | omega)
      have wM12_97_16 : M12 97 16 = M 97 16 := by rw [hM12]; exact mu_ne _ _ (by first | decide | omega)
      have wM12_97_17 : M12 97 17 = M 97 17 := by rw [hM12]; exact mu_ne _ _ (by first | decide | omega)
      have xM12_97_18 : M12 97 18 = 1 := by rw [hM12]; exact mu_at _ _ _ _
      refine g_aload_n (pc' := 17) 0 dX10_must_16 rfl rfl ?_
      refine g_aload_n (pc' := 18) 0 dX10_must_17 rfl rfl ?_
      refine g_getI (pc' := 21) dX10_must_18 rfl f_X10_161 rfl rfl (fun v13 ev13 rv13 => ?_)
      refine g_putI (pc' := 24) dX10_must_21 rfl p_X10_39 rfl rfl rv13 (fun M14 hM14 => ?_)
      have iM14 : IM M14 := IM.wr iM12 hM14 (by unfold okv; first | decide | omega)
      have fM14 : Fr (fun c => c = 97) M M14 := Fr.wr fM12 hM14 (by first | decide | omega | (dsimp only; omega))
      have q97_12_M14 : (M14 97 12 = M 97 12) := (show M14 97 12 = M12 97 12 by rw [hM14]; exact mu_ne _ _ (by first | decide | omega)).trans q97_12_M12
      have q97_19_M14 : (M14 97 19 = M 97 19) := (show M14 97 19 = M12 97 19 by rw [hM14]; exact mu_ne _ _ (by first | decide | omega)).trans q97_19_M12
      have q97_21_M14 : (M14 97 21 = M 97 21) := (show M14 97 21 = M12 97 21 by rw [hM14]; exact mu_ne _ _ (by first | decide | omega)).trans q97_21_M12
      have q97_24_M14 : (M14 97 24 = M 97 24) := (show M14 97 24 = M12 97 24 by rw [hM14]; exact mu_ne _ _ (by first | decide | omega)).trans q97_24_M12
      have q97_27_M14 : (M14 97 27 = M 97 27) := (show M14 97 27 = M12 97 27 by rw [hM14]; exact mu_ne _ _ (by first | decide | omega)).trans q97_27_M12
      have q97_28_M14 : (M14 97 28 = M 97 28) := (show M14 97 28 = M12 97 28 by rw [hM14]; exact mu_ne _ _ (by first | decide | omega)).trans q97_28_M12
      have q97_10_M14 : (M14 97 10 = M 97 10) := (show M14 97 10 = M12 97 10 by rw [hM14]; exact mu_ne _ _ (by first | decide | omega)).trans q97_10_M12
      have q97_44_M14 : (M14 97 44 = M 97 44) := (show M14 97 44 = M12 97 44 by rw [hM14]; exact mu_ne _ _ (by first | decide | omega)).trans q97_44_M12
      have q97_33_M14 : (M14 97 33 = M 97 33) := (show M14 97 33 = M12 97 33 by rw [hM14]; exact mu_ne _ _ (by first | decide | omega)).trans q97_33_M12
      have wM14_97_13 : M14 97 13 = M12 97 13 := by rw [hM14]; exact mu_ne _ _ (by first | decide | omega)
      have wM14_97_14 : M14 97 14 = M12 97 14 := by rw [hM14]; exact mu_ne _ _ (by first | decide | omega)
      have wM14_97_15 : M14 97 15 = M12 97 15 := by rw [hM14]; exact mu_ne _ _ (by first | decide | omega)
      have wM14_97_16 : M14 97 16 = M12 97 16 := by rw [hM14]; exact mu_ne _ _ (by first | decide | omega)
      have wM14_97_18 : M14 97 18 = M12 97 18 := by rw [hM14]; exact mu_ne _ _ (by first | decide | omega)
      have xM14_97_18 : M14 97 18 = 1 := (show M14 97 18 = M12 97 18 by rw [hM14]; exact mu_ne _ _ (by first | decide | omega)).trans xM12_97_18
      have xM14_97_17 : M14 97 17 = v13 := by rw [hM14]; exact mu_at _ _ _ _
      refine g_aload_n (pc' := 25) 0 dX10_must_24 rfl rfl ?_
      refine g_getI (pc' := 28) dX10_must_25 rfl f_X10_154 rfl rfl (fun v15 ev15 rv15 => ?_)
      have yv15 : v15 = 1 := ev15.trans xM14_97_18
      refine g_if_ne (pc' := 31) (tgt := 35) rv15 dX10_must_28 rfl rfl (fun c16 => ?_) (fun c16 => ?_)
      · refine g_vreturn dX10_must_35 ?_
        exact ⟨iM14, fM14, q97_12_M14, q97_19_M14, q97_21_M14, q97_24_M14, q97_27_M14, q97_28_M14, q97_10_M14, q97_44_M14, q97_33_M14, ⟨fun z y => by omega, fun z y => by omega, fun z => by omega⟩, by omega, by omega, by omega, by omega, by omega, by omega, by omega⟩
      · refine g_aload_n (pc' := 32) 0 dX10_must_31 rfl rfl ?_
        refine g_callVv (pc' := 35) (As := []) (b := 97) (S := []) dX10_must_32 rfl m_X10_158 w_X10_next (c_X10_next_x X M14 iM14 (by omega)) rfl ⟨_, _, _, rfl, rfl, rfl⟩ (by decide) (by decide) rfl (Nat.le_of_ble_eq_true rfl) (fun M18 q17 => ?_)
        obtain ⟨iM18, fM180, eM18_97_12, eM18_97_19, eM18_97_21, eM18_97_24, eM18_97_27, eM18_97_28, eM18_97_10, eM18_97_44, eM18_97_33, eM18_97_18, eM18_97_17, pM18⟩ := q17
        have fM18 : Fr (fun c => c = 97) M M18 := Fr.tr fM14 fM180 (fun _ z => z)
        have q97_12_M18 : (M18 97 12 = M 97 12) := eM18_97_12.trans q97_12_M14
        have q97_19_M18 : (M18 97 19 = M 97 19) := eM18_97_19.trans q97_19_M14
        have q97_21_M18 : (M18 97 21 = M 97 21) := eM18_97_21.trans q97_21_M14
        have q97_24_M18 : (M18 97 24 = M 97 24) := eM18_97_24.trans q97_24_M14
        have q97_27_M18 : (M18 97 27 = M 97 27) := eM18_97_27.trans q97_27_M14
        have q97_28_M18 : (M18 97 28 = M 97 28) := eM18_97_28.trans q97_28_M14
        have q97_10_M18 : (M18 97 10 = M 97 10) := eM18_97_10.trans q97_10_M14
        have q97_44_M18 : (M18 97 44 = M 97 44) := eM18_97_44.trans q97_44_M14
        have q97_33_M18 : (M18 97 33 = M 97 33) := eM18_97_33.trans q97_33_M14
        have wM18_97_17 : M18 97 17 = M14 97 17 := eM18_97_17
        have wM18_97_18 : M18 97 18 = M14 97 18 := eM18_97_18
        have xM18_97_18 : M18 97 18 = 1 := eM18_97_18.trans xM14_97_18
        have xM18_97_17 : M18 97 17 = v13 := eM18_97_17.trans xM14_97_17
        obtain ⟨nqM18, pM18⟩ := pM18
        refine g_vreturn dX10_must_35 ?_
        exact ⟨iM18, fM18, q97_12_M18, q97_19_M18, q97_21_M18, q97_24_M18, q97_27_M18, q97_28_M18, q97_10_M18, q97_44_M18, q97_33_M18, ⟨fun _ _ => (by first | exact ⟨by omega, by omega, nqM18⟩ | exact False.elim (by omega)), fun _ z => by omega, fun z => by omega⟩, by omega, by omega, by omega, by omega, by omega, by omega, by omega⟩
set_option maxHeartbeats 4000000 in
set_option maxRecDepth 100000 in
theorem c_X10_readNumber_x (X : Cx) (M : Mm) (hi : IM M) (a : Int) (ha : inI a) (htk : (0 ≤ M 97 13 ∧ M 97 13 ≤ M 97 14 ∧ M 97 14 ≤ M 97 12) ∧ (0 ≤ M 97 15 ∧ M 97 15 ≤ 3) ∧ (M 97 15 ≠ 0 → M 97 13 < M 97 14) ∧ (M 97 15 = 2 → 0 ≤ M 97 16 ∧ M 97 16 ≤ 10000009)) (ha3 : 0 ≤ a ∧ a ≤ 1000) : Con X 3 yX10_readNumber cX10_readNumber 4 (some .int) [vr X 97, vi a] M (Qi (fun r M1 => IM M1 ∧ Fr (fun c => c = 97) M M1 ∧ M1 97 12 = M 97 12 ∧ M1 97 19 = M 97 19 ∧ M1 97 21 = M 97 21 ∧ M1 97 24 = M 97 24 ∧ M1 97 27 = M 97 27 ∧ M1 97 28 = M 97 28 ∧ M1 97 10 = M 97 10 ∧ M1 97 44 = M 97 44 ∧ M1 97 33 = M 97 33 ∧ (RNQ M M1 a r ∧ M 97 13 ≤ M1 97 13 ∧ (M 97 18 ≠ 0 → M1 97 18 ≠ 0) ∧ (M1 97 18 = 0 → M 97 18 = 0 ∧ M 97 13 < M1 97 13 ∧ 0 ≤ r ∧ r ≤ a) ∧ (0 ≤ r ∧ r ≤ 1000) ∧ (0 ≤ M1 97 13 ∧ M1 97 13 ≤ M1 97 14 ∧ M1 97 14 ≤ M1 97 12) ∧ (0 ≤ M1 97 15 ∧ M1 97 15 ≤ 3) ∧ (M1 97 15 ≠ 0 → M1 97 13 < M1 97 14) ∧ (M1 97 15 = 2 → 0 ≤ M1 97 16 ∧ M1 97 16 ≤ 10000009)))) := by
  refine Con.ofG rfl (Nat.le_of_ble_eq_true rfl) ?_
  show G X 3 RX10 cX10_readNumber 4 (some .int) (Qi (fun r M1 => IM M1 ∧ Fr (fun c => c = 97) M M1 ∧ M1 97 12 = M 97 12 ∧ M1 97 19 = M 97 19 ∧ M1 97 21 = M 97 21 ∧ M1 97 24 = M 97 24 ∧ M1 97 27 = M 97 27 ∧ M1 97 28 = M 97 28 ∧ M1 97 10 = M 97 10 ∧ M1 97 44 = M 97 44 ∧ M1 97 33 = M 97 33 ∧ (RNQ M M1 a r ∧ M 97 13 ≤ M1 97 13 ∧ (M 97 18 ≠ 0 → M1 97 18 ≠ 0) ∧ (M1 97 18 = 0 → M 97 18 = 0 ∧ M 97 13 < M1 97 13 ∧ 0 ≤ r ∧ r ≤ a) ∧ (0 ≤ r ∧ r ≤ 1000) ∧ (0 ≤ M1 97 13 ∧ M1 97 13 ≤ M1 97 14 ∧ M1 97 14 ≤ M1 97 12) ∧ (0 ≤ M1 97 15 ∧ M1 97 15 ≤ 3) ∧ (M1 97 15 ≠ 0 → M1 97 13 < M1 97 14) ∧ (M1 97 15 = 2 → 0 ≤ M1 97 16 ∧ M1 97 16 ≤ 10000009)))) 0 [(0, vr X 97), (1, vi a)] [] M
  have p12 := hi.2.2.2.1
  refine g_aload_n (pc' := 1) 0 dX10_readNumber_0 rfl rfl ?_
  refine g_getI (pc' := 4) dX10_readNumber_1 rfl f_X10_174 rfl rfl (fun v1 ev1 rv1 => ?_)
  refine g_iconst (pc' := 5) dX10_readNumber_4 rfl ?_
  refine g_ic_ne (pc' := 8) (tgt := 22) rv1 (by decide) dX10_readNumber_5 rfl rfl (fun c2 => ?_) (fun c2 => ?_)
  · refine g_iconst (pc' := 23) dX10_readNumber_22 rfl ?_
    refine g_istore_n (pc' := 24) (i := 2) (L' := [(2, vi 0), (0, vr X 97), (1, vi a)]) dX10_readNumber_23 rfl rfl (by decide) rfl ?_
    refine g_iload_n (pc' := 25) 0 dX10_readNumber_24 rfl rfl ?_
    refine g_if_eq (pc' := 28) (tgt := 36) (by decide) dX10_readNumber_25 rfl rfl (fun c3 => ?_) (fun c3 => ?_)
    · refine g_iconst (pc' := 37) dX10_readNumber_36 rfl ?_
      refine g_istore_n (pc' := 38) (i := 3) (L' := [(3, vi 0), (2, vi 0), (0, vr X 97), (1, vi a)]) dX10_readNumber_37 rfl rfl (by decide) rfl ?_
      refine g_aload_n (pc' := 39) 2 dX10_readNumber_38 rfl rfl ?_
      refine g_iload_n (pc' := 40) 1 dX10_readNumber_39 rfl rfl ?_
      refine g_callVv (pc' := 43) (As := [vi 0]) (b := 97) (S := []) dX10_readNumber_40 rfl m_X10_187 w_X10_must (c_X10_must_x X M hi 0 (by decide) (by omega)) rfl ⟨_, _, _, rfl, rfl, rfl⟩ (by decide) (by decide) rfl (Nat.le_of_ble_eq_true rfl) (fun M5 q4 => ?_)
      obtain ⟨iM5, fM50, eM5_97_12, eM5_97_19, eM5_97_21, eM5_97_24, eM5_97_27, eM5_97_28, eM5_97_10, eM5_97_44, eM5_97_33, pM5⟩ := q4
      have fM5 : Fr (fun c => c = 97) M M5 := Fr.tr Fr.rf fM50 (fun _ z => z)
      have q97_12_M5 : (M5 97 12 = M 97 12) := eM5_97_12
      have q97_19_M5 : (M5 97 19 = M 97 19) := eM5_97_19
      have q97_21_M5 : (M5 97 21 = M 97 21) := eM5_97_21
      have q97_24_M5 : (M5 97 24 = M 97 24) := eM5_97_24
      have q97_27_M5 : (M5 97 27 = M 97 27) := eM5_97_27
      have q97_28_M5 : (M5 97 28 = M 97 28) := eM5_97_28
      have q97_10_M5 : (M5 97 10 = M 97 10) := eM5_97_10
      have q97_44_M5 : (M5 97 44 = M 97 44) := eM5_97_44
      have q97_33_M5 : (M5 97 33 = M 97 33) := eM5_97_33
      obtain ⟨mqM5, pM5⟩ := pM5
      refine g_iload_n (pc' := 44) 0 dX10_readNumber_43 rfl rfl ?_
      refine g_ireturn dX10_readNumber_44 ?_
      exact ⟨iM5, fM5, q97_12_M5, q97_19_M5, q97_21_M5, q97_24_M5, q97_27_M5, q97_28_M5, q97_10_M5, q97_44_M5, q97_33_M5, (fun hb => ⟨fun z => ⟨(mqM5.1 hb (by omega)).1, by omega, (mqM5.1 hb (by omega)).2⟩, fun z => mqM5.2.1 hb (by omega)⟩), by omega, by omega, by omega, ⟨by omega, by omega⟩, by omega, by omega, by omega, by omega⟩
    · exact absurd c3 (by omega)
  · refine g_aload_n (pc' := 9) 0 dX10_readNumber_8 rfl rfl ?_
    refine g_getL (pc' := 12) dX10_readNumber_9 rfl f_X10_164 rfl rfl (fun v6 ev6 rv6 => ?_)
    refine g_iload_n (pc' := 13) 1 dX10_readNumber_12 rfl rfl ?_
    refine g_i2l (pc' := 14) ha dX10_readNumber_13 rfl ?_
    refine g_lc_gt (pc' := 18) (tgt := 22) rv6 ⟨by omega, by omega⟩ dX10_readNumber_14 dX10_readNumber_15 rfl rfl (fun c7 => ?_) (fun c7 => ?_)
    · refine g_iconst (pc' := 23) dX10_readNumber_22 rfl ?_
      refine g_istore_n (pc' := 24) (i := 2) (L' := [(2, vi 0), (0, vr X 97), (1, vi a)]) dX10_readNumber_23 rfl rfl (by decide) rfl ?_
      refine g_iload_n (pc' := 25) 0 dX10_readNumber_24 rfl rfl ?_
      refine g_if_eq (pc' := 28) (tgt := 36) (by decide) dX10_readNumber_25 rfl rfl (fun c8 => ?_) (fun c8 => ?_)
      · refine g_iconst (pc' := 37) dX10_readNumber_36 rfl ?_
        refine g_istore_n (pc' := 38) (i := 3) (L' := [(3, vi 0), (2, vi 0), (0, vr X 97), (1, vi a)]) dX10_readNumber_37 rfl rfl (by decide) rfl ?_
        refine g_aload_n (pc' := 39) 2 dX10_readNumber_38 rfl rfl ?_
        refine g_iload_n (pc' := 40) 1 dX10_readNumber_39 rfl rfl ?_
        refine g_callVv (pc' := 43) (As := [vi 0]) (b := 97) (S := []) dX10_readNumber_40 rfl m_X10_187 w_X10_must (c_X10_must_x X M hi 0 (by decide) (by omega)) rfl ⟨_, _, _, rfl, rfl, rfl⟩ (by decide) (by decide) rfl (Nat.le_of_ble_eq_true rfl) (fun M10 q9 => ?_)
        obtain ⟨iM10, fM100, eM10_97_12, eM10_97_19, eM10_97_21, eM10_97_24, eM10_97_27, eM10_97_28, eM10_97_10, eM10_97_44, eM10_97_33, pM10⟩ := q9
        have fM10 : Fr (fun c => c = 97) M M10 := Fr.tr Fr.rf fM100 (fun _ z => z)
        have q97_12_M10 : (M10 97 12 = M 97 12) := eM10_97_12
        have q97_19_M10 : (M10 97 19 = M 97 19) := eM10_97_19
        have q97_21_M10 : (M10 97 21 = M 97 21) := eM10_97_21
        have q97_24_M10 : (M10 97 24 = M 97 24) := eM10_97_24
        have q97_27_M10 : (M10 97 27 = M 97 27) := eM10_97_27
        have q97_28_M10 : (M10 97 28 = M 97 28) := eM10_97_28
        have q97_10_M10 : (M10 97 10 = M 97 10) := eM10_97_10
        have q97_44_M10 : (M10 97 44 = M 97 44) := eM10_97_44
        have q97_33_M10 : (M10 97 33 = M 97 33) := eM10_97_33
        obtain ⟨mqM10, pM10⟩ := pM10
        refine g_iload_n (pc' := 44) 0 dX10_readNumber_43 rfl rfl ?_
        refine g_ireturn dX10_readNumber_44 ?_
        exact ⟨iM10, fM10, q97_12_M10, q97_19_M10, q97_21_M10, q97_24_M10, q97_27_M10, q97_28_M10, q97_10_M10, q97_44_M10, q97_33_M10, (fun hb => ⟨fun z => ⟨(mqM10.1 hb (by omega)).1, by omega, (mqM10.1 hb (by omega)).2⟩, fun z => mqM10.2.1 hb (by omega)⟩), by omega, by omega, by omega, ⟨by omega, by omega⟩, by omega, by omega, by omega, by omega⟩
      · exact absurd c8 (by omega)
    · refine g_iconst (pc' := 19) dX10_readNumber_18 rfl ?_
      refine g_goto (tgt := 23) dX10_readNumber_19 rfl ?_
      refine g_istore_n (pc' := 24) (i := 2) (L' := [(2, vi 1), (0, vr X 97), (1, vi a)]) dX10_readNumber_23 rfl rfl (by decide) rfl ?_
      refine g_iload_n (pc' := 25) 0 dX10_readNumber_24 rfl rfl ?_
      refine g_if_eq (pc' := 28) (tgt := 36) (by decide) dX10_readNumber_25 rfl rfl (fun c11 => ?_) (fun c11 => ?_)
      · exact absurd c11 (by omega)
      · refine g_aload_n (pc' := 29) 1 dX10_readNumber_28 rfl rfl ?_
        refine g_getL (pc' := 32) dX10_readNumber_29 rfl f_X10_164 rfl rfl (fun v12 ev12 rv12 => ?_)
        obtain rfl : v6 = v12 := ev6.trans ev12.symm
        refine g_l2i (pc' := 33) dX10_readNumber_32 rfl ?_
        refine g_goto (tgt := 37) dX10_readNumber_33 rfl ?_
        refine g_istore_n (pc' := 38) (i := 3) (L' := [(3, vi v6), (2, vi 1), (0, vr X 97), (1, vi a)]) dX10_readNumber_37 rfl rfl (by decide) rfl ?_
        refine g_aload_n (pc' := 39) 2 dX10_readNumber_38 rfl rfl ?_
        refine g_iload_n (pc' := 40) 1 dX10_readNumber_39 rfl rfl ?_
        refine g_callVv (pc' := 43) (As := [vi 1]) (b := 97) (S := []) dX10_readNumber_40 rfl m_X10_187 w_X10_must (c_X10_must_x X M hi 1 (by decide) (by omega)) rfl ⟨_, _, _, rfl, rfl, rfl⟩ (by decide) (by decide) rfl (Nat.le_of_ble_eq_true rfl) (fun M14 q13 => ?_)
        obtain ⟨iM14, fM140, eM14_97_12, eM14_97_19, eM14_97_21, eM14_97_24, eM14_97_27, eM14_97_28, eM14_97_10, eM14_97_44, eM14_97_33, pM14⟩ := q13
        have fM14 : Fr (fun c => c = 97) M M14 := Fr.tr Fr.rf fM140 (fun _ z => z)
        have q97_12_M14 : (M14 97 12 = M 97 12) := eM14_97_12
        have q97_19_M14 : (M14 97 19 = M 97 19) := eM14_97_19
        have q97_21_M14 : (M14 97 21 = M 97 21) := eM14_97_21
        have q97_24_M14 : (M14 97 24 = M 97 24) := eM14_97_24
        have q97_27_M14 : (M14 97 27 = M 97 27) := eM14_97_27
        have q97_28_M14 : (M14 97 28 = M 97 28) := eM14_97_28
        have q97_10_M14 : (M14 97 10 = M 97 10) := eM14_97_10
        have q97_44_M14 : (M14 97 44 = M 97 44) := eM14_97_44
        have q97_33_M14 : (M14 97 33 = M 97 33) := eM14_97_33
        obtain ⟨mqM14, pM14⟩ := pM14
        refine g_iload_n (pc' := 44) 0 dX10_readNumber_43 rfl rfl ?_
        refine g_ireturn dX10_readNumber_44 ?_
        exact ⟨iM14, fM14, q97_12_M14, q97_19_M14, q97_21_M14, q97_24_M14, q97_27_M14, q97_28_M14, q97_10_M14, q97_44_M14, q97_33_M14, (fun hb => ⟨fun z => ⟨(mqM14.1 hb (by omega)).1, by omega, (mqM14.1 hb (by omega)).2⟩, fun z => mqM14.2.1 hb (by omega)⟩), by omega, by omega, by omega, ⟨by omega, by omega⟩, by omega, by omega, by omega, by omega⟩
set_option maxHeartbeats 4000000 in
set_option maxRecDepth 100000 in
theorem l_X10_isCompared_x_7 (X : Cx) (M : Mm) (hi : IM M) (F0 : Int) (hs : SI M F0) : ∀ (kk : Nat) (k : Int) (h0 : -1 ≤ k ∧ k < M 97 27) (cm : CMP M k), (k + 1).toNat = kk → G X 1 RX10 cX10_isCompared 2 (some .boolean) (Qi (fun r M1 => M1 = M ∧ (CMQ M r ∧ (r = 0 ∨ r = 1)))) 7 [(1, vi k), (0, vr X 97)] [] M := by
  intro kk
  induction kk using Nat.strongRecOn with
  | ind kk ih =>
    intro k h0 cm hmes
    have sa := hs.ar
    refine g_iload_n (pc' := 8) 0 dX10_isCompared_7 rfl rfl ?_
    refine g_if_lt (pc' := 11) (tgt := 36) ⟨by omega, by omega⟩ dX10_isCompared_8 rfl rfl (fun c1 => ?_) (fun c1 => ?_)
    · refine g_iload_n (pc' := 37) 0 dX10_isCompared_36 rfl rfl ?_
      refine g_if_lt (pc' := 40) (tgt := 63) ⟨by omega, by omega⟩ dX10_isCompared_37 rfl rfl (fun c2 => ?_) (fun c2 => ?_)
      · refine g_iconst (pc' := 64) dX10_isCompared_63 rfl ?_
        refine g_zreturn dX10_isCompared_64 (by omega) ?_
        exact ⟨rfl, cm.e (by omega), by omega⟩
      · refine g_aload_n (pc' := 41) 1 dX10_isCompared_40 rfl rfl ?_
        refine g_getR (pc' := 44) dX10_isCompared_41 rfl f_X10_52 rfl rfl ?_
        refine g_iload_n (pc' := 45) 0 dX10_isCompared_44 rfl rfl ?_
        refine g_iald (pc' := 46) dX10_isCompared_45 rfl rfl (by omega) (by omega) (fun v3 ev3 rv3 => ?_)
        have dv3 := SI.pile hs (i := k) (by omega) (by omega) ev3
        refine g_i2l (pc' := 47) rv3 dX10_isCompared_46 rfl ?_
        refine g_ldc2 (pc' := 50) (v := 24) dX10_isCompared_47 rfl k_X10_208 ?_
        refine g_ldc2 (pc' := 53) (v := 26) dX10_isCompared_50 rfl k_X10_210 ?_
        refine g_callSip (pc' := 56) (As := [vl v3, vl 24, vl 26]) (S := []) dX10_isCompared_53 rfl m_X10_83 w_X10_in (c_X10_in X M v3 ⟨by omega, by omega⟩ 24 (by decide) 26 (by decide)) rfl (by decide) (by decide) rfl (Nat.le_of_ble_eq_true rfl) (fun z5 q4 => ?_)
        refine g_if_eq (pc' := 59) (tgt := 63) ⟨by omega, by omega⟩ dX10_isCompared_56 rfl rfl (fun c6 => ?_) (fun c6 => ?_)
        · replace q4 := q4.resolve_left (fun h => absurd (c6.symm.trans h.1) (by decide))
          refine g_iconst (pc' := 64) dX10_isCompared_63 rfl ?_
          refine g_zreturn dX10_isCompared_64 (by omega) ?_
          exact ⟨rfl, (by first | exact False.elim (by omega) | exact cm.t (by omega) ev3 (by omega) (Or.inr ⟨rfl, by omega⟩)), by omega⟩
        · replace q4 := q4.resolve_right (fun h => c6 h.1)
          refine g_iconst (pc' := 60) dX10_isCompared_59 rfl ?_
          refine g_goto (tgt := 64) dX10_isCompared_60 rfl ?_
          refine g_zreturn dX10_isCompared_64 (by omega) ?_
          exact ⟨rfl, cm.t (by omega) ev3 (by omega) (Or.inl ⟨rfl, by omega⟩), by omega⟩
    · refine g_aload_n (pc' := 12) 1 dX10_isCompared_11 rfl rfl ?_
      refine g_getR (pc' := 15) dX10_isCompared_12 rfl f_X10_52 rfl rfl ?_
      refine g_iload_n (pc' := 16) 0 dX10_isCompared_15 rfl rfl ?_
      refine g_iald (pc' := 17) dX10_isCompared_16 rfl rfl (by omega) (by omega) (fun v7 ev7 rv7 => ?_)
      have dv7 := SI.pile hs (i := k) (by omega) (by omega) ev7
      refine g_i2l (pc' := 18) rv7 dX10_isCompared_17 rfl ?_
      refine g_ldc2 (pc' := 21) (v := 20) dX10_isCompared_18 rfl k_X10_204 ?_
      refine g_ldc2 (pc' := 24) (v := 23) dX10_isCompared_21 rfl k_X10_206 ?_
      refine g_callSip (pc' := 27) (As := [vl v7, vl 20, vl 23]) (S := []) dX10_isCompared_24 rfl m_X10_83 w_X10_in (c_X10_in X M v7 ⟨by omega, by omega⟩ 20 (by decide) 23 (by decide)) rfl (by decide) (by decide) rfl (Nat.le_of_ble_eq_true rfl) (fun z9 q8 => ?_)
      refine g_if_eq (pc' := 30) (tgt := 36) ⟨by omega, by omega⟩ dX10_isCompared_27 rfl rfl (fun c10 => ?_) (fun c10 => ?_)
      · replace q8 := q8.resolve_left (fun h => absurd (c10.symm.trans h.1) (by decide))
        refine g_iload_n (pc' := 37) 0 dX10_isCompared_36 rfl rfl ?_
        refine g_if_lt (pc' := 40) (tgt := 63) ⟨by omega, by omega⟩ dX10_isCompared_37 rfl rfl (fun c11 => ?_) (fun c11 => ?_)
        · refine g_iconst (pc' := 64) dX10_isCompared_63 rfl ?_
          refine g_zreturn dX10_isCompared_64 (by omega) ?_
          exact ⟨rfl, (by first | exact False.elim (by omega) | exact cm.t (by omega) ev7 (by omega) (Or.inr ⟨rfl, by omega⟩)), by omega⟩
        · refine g_aload_n (pc' := 41) 1 dX10_isCompared_40 rfl rfl ?_
          refine g_getR (pc' := 44) dX10_isCompared_41 rfl f_X10_52 rfl rfl ?_
          refine g_iload_n (pc' := 45) 0 dX10_isCompared_44 rfl rfl ?_
          refine g_iald (pc' := 46) dX10_isCompared_45 rfl rfl (by omega) (by omega) (fun v12 ev12 rv12 => ?_)
          obtain rfl : v7 = v12 := ev7.trans ev12.symm
          refine g_i2l (pc' := 47) rv7 dX10_isCompared_46 rfl ?_
          refine g_ldc2 (pc' := 50) (v := 24) dX10_isCompared_47 rfl k_X10_208 ?_
          refine g_ldc2 (pc' := 53) (v := 26) dX10_isCompared_50 rfl k_X10_210 ?_
          refine g_callSip (pc' := 56) (As := [vl v7, vl 24, vl 26]) (S := []) dX10_isCompared_53 rfl m_X10_83 w_X10_in (c_X10_in X M v7 ⟨by omega, by omega⟩ 24 (by decide) 26 (by decide)) rfl (by decide) (by decide) rfl (Nat.le_of_ble_eq_true rfl) (fun z14 q13 => ?_)
          refine g_if_eq (pc' := 59) (tgt := 63) ⟨by omega, by omega⟩ dX10_isCompared_56 rfl rfl (fun c15 => ?_) (fun c15 => ?_)
          · replace q13 := q13.resolve_left (fun h => absurd (c15.symm.trans h.1) (by decide))
            refine g_iconst (pc' := 64) dX10_isCompared_63 rfl ?_
            refine g_zreturn dX10_isCompared_64 (by omega) ?_
            exact ⟨rfl, (by first | exact False.elim (by omega) | exact cm.t (by omega) ev7 (by omega) (Or.inr ⟨rfl, by omega⟩)), by omega⟩
          · replace q13 := q13.resolve_right (fun h => c15 h.1)
            refine g_iconst (pc' := 60) dX10_isCompared_59 rfl ?_
            refine g_goto (tgt := 64) dX10_isCompared_60 rfl ?_
            refine g_zreturn dX10_isCompared_64 (by omega) ?_
            exact ⟨rfl, cm.t (by omega) ev7 (by omega) (Or.inl ⟨rfl, by omega⟩), by omega⟩
      · replace q8 := q8.resolve_right (fun h => c10 h.1)
        refine g_iinc (pc' := 33) (L' := [(1, vi (k + (-1))), (0, vr X 97)]) 0 dX10_isCompared_30 rfl rfl (by decide) rfl ?_
        refine g_goto (tgt := 7) dX10_isCompared_33 rfl ?_
        refine g_sub [0, 1] rfl ?_
        exact ih _ (by omega) (k + (-1)) (by omega) (by rw [show k + (-1) = k - 1 by omega]; exact cm.s (by omega) ev7 (by omega)) rfl
set_option maxHeartbeats 4000000 in
set_option maxRecDepth 100000 in
theorem c_X10_isCompared_x (X : Cx) (M : Mm) (hi : IM M) (F0 : Int) (hs : SI M F0) : Con X 1 yX10_isCompared cX10_isCompared 2 (some .boolean) [vr X 97] M (Qi (fun r M1 => M1 = M ∧ (CMQ M r ∧ (r = 0 ∨ r = 1)))) := by
  refine Con.ofG rfl (Nat.le_of_ble_eq_true rfl) ?_
  show G X 1 RX10 cX10_isCompared 2 (some .boolean) (Qi (fun r M1 => M1 = M ∧ (CMQ M r ∧ (r = 0 ∨ r = 1)))) 0 [(0, vr X 97)] [] M
  have sa := hs.ar
  refine g_aload_n (pc' := 1) 0 dX10_isCompared_0 rfl rfl ?_
  refine g_getI (pc' := 4) dX10_isCompared_1 rfl f_X10_194 rfl rfl (fun v1 ev1 rv1 => ?_)
  refine g_iconst (pc' := 5) dX10_isCompared_4 rfl ?_
  refine g_isub (pc' := 6) dX10_isCompared_5 rfl ?_
  obtain ⟨x2, ex2⟩ : ∃ z : Int, z = v1 - 1 := ⟨_, rfl⟩
  rw [← ex2]
  refine g_istore_n (pc' := 7) (i := 1) (L' := [(1, vi x2), (0, vr X 97)]) dX10_isCompared_6 rfl rfl (by decide) rfl ?_
  refine g_sub [0, 1] rfl ?_
  exact l_X10_isCompared_x_7 X M hi F0 hs _ x2 (by omega) (CMP.z (by omega)) rfl
set_option maxHeartbeats 4000000 in
set_option maxRecDepth 100000 in
theorem c_X10_emit_x (X : Cx) (M : Mm) (hi : IM M) (a : Int) (ha : inI a) (b : Int) (hb : inI b) (hn : 0 ≤ M 97 21 ∧ M 97 21 < 400) : Con X 0 yX10_emit cX10_emit 3 none [vr X 97, vi a, vi b] M (Qv (fun M1 => IM M1 ∧ Fr (fun c => c = 97 ∨ c = 108 ∨ c = 109) M M1 ∧ M1 97 12 = M 97 12 ∧ M1 97 19 = M 97 19 ∧ M1 97 24 = M 97 24 ∧ M1 97 27 = M 97 27 ∧ M1 97 28 = M 97 28 ∧ M1 97 10 = M 97 10 ∧ M1 97 44 = M 97 44 ∧ M1 97 33 = M 97 33 ∧ M1 97 13 = M 97 13 ∧ M1 97 14 = M 97 14 ∧ M1 97 15 = M 97 15 ∧ M1 97 16 = M 97 16 ∧ M1 97 18 = M 97 18 ∧ M1 97 17 = M 97 17 ∧ (M1 108 = ms (M 108) (M 97 21).toNat a ∧ M1 109 = ms (M 109) (M 97 21).toNat b ∧ M1 97 21 = M 97 21 + 1))) := by
  refine Con.ofG rfl (Nat.le_of_ble_eq_true rfl) ?_
  show G X 0 RX10 cX10_emit 3 none (Qv (fun M1 => IM M1 ∧ Fr (fun c => c = 97 ∨ c = 108 ∨ c = 109) M M1 ∧ M1 97 12 = M 97 12 ∧ M1 97 19 = M 97 19 ∧ M1 97 24 = M 97 24 ∧ M1 97 27 = M 97 27 ∧ M1 97 28 = M 97 28 ∧ M1 97 10 = M 97 10 ∧ M1 97 44 = M 97 44 ∧ M1 97 33 = M 97 33 ∧ M1 97 13 = M 97 13 ∧ M1 97 14 = M 97 14 ∧ M1 97 15 = M 97 15 ∧ M1 97 16 = M 97 16 ∧ M1 97 18 = M 97 18 ∧ M1 97 17 = M 97 17 ∧ (M1 108 = ms (M 108) (M 97 21).toNat a ∧ M1 109 = ms (M 109) (M 97 21).toNat b ∧ M1 97 21 = M 97 21 + 1))) 0 [(0, vr X 97), (1, vi a), (2, vi b)] [] M
  refine g_aload_n (pc' := 1) 0 dX10_emit_0 rfl rfl ?_
  refine g_getR (pc' := 4) dX10_emit_1 rfl f_X10_46 rfl rfl ?_
  refine g_aload_n (pc' := 5) 0 dX10_emit_4 rfl rfl ?_
  refine g_getI (pc' := 8) dX10_emit_5 rfl f_X10_191 rfl rfl (fun v1 ev1 rv1 => ?_)
  have av1 : v1 = M 97 21 := ev1
  refine g_iload_n (pc' := 9) 1 dX10_emit_8 rfl rfl ?_
  refine g_iast (pc' := 10) dX10_emit_9 rfl rfl (by omega) (by omega) ha (fun M2 hM2 => ?_)
  have iM2 : IM M2 := IM.wr hi hM2 (by unfold okv; first | decide | omega)
  have fM2 : Fr (fun c => c = 97 ∨ c = 108 ∨ c = 109) M M2 := Fr.wr Fr.rf hM2 (by first | decide | omega | (dsimp only; omega))
  have q97_12_M2 : (M2 97 12 = M 97 12) := (show M2 97 12 = M 97 12 by rw [hM2]; exact mu_ne _ _ (by first | decide | omega))
  have q97_19_M2 : (M2 97 19 = M 97 19) := (show M2 97 19 = M 97 19 by rw [hM2]; exact mu_ne _ _ (by first | decide | omega))
  have q97_24_M2 : (M2 97 24 = M 97 24) := (show M2 97 24 = M 97 24 by rw [hM2]; exact mu_ne _ _ (by first | decide | omega))
  have q97_27_M2 : (M2 97 27 = M 97 27) := (show M2 97 27 = M 97 27 by rw [hM2]; exact mu_ne _ _ (by first | decide | omega))
  have q97_28_M2 : (M2 97 28 = M 97 28) := (show M2 97 28 = M 97 28 by rw [hM2]; exact mu_ne _ _ (by first | decide | omega))
  have q97_10_M2 : (M2 97 10 = M 97 10) := (show M2 97 10 = M 97 10 by rw [hM2]; exact mu_ne _ _ (by first | decide | omega))
  have q97_44_M2 : (M2 97 44 = M 97 44) := (show M2 97 44 = M 97 44 by rw [hM2]; exact mu_ne _ _ (by first | decide | omega))
  have q97_33_M2 : (M2 97 33 = M 97 33) := (show M2 97 33 = M 97 33 by rw [hM2]; exact mu_ne _ _ (by first | decide | omega))
  have q97_13_M2 : (M2 97 13 = M 97 13) := (show M2 97 13 = M 97 13 by rw [hM2]; exact mu_ne _ _ (by first | decide | omega))
  have q97_14_M2 : (M2 97 14 = M 97 14) := (show M2 97 14 = M 97 14 by rw [hM2]; exact mu_ne _ _ (by first | decide | omega))
  have q97_15_M2 : (M2 97 15 = M 97 15) := (show M2 97 15 = M 97 15 by rw [hM2]; exact mu_ne _ _ (by first | decide | omega))
  have q97_16_M2 : (M2 97 16 = M 97 16) := (show M2 97 16 = M 97 16 by rw [hM2]; exact mu_ne _ _ (by first | decide | omega))
  have q97_18_M2 : (M2 97 18 = M 97 18) := (show M2 97 18 = M 97 18 by rw [hM2]; exact mu_ne _ _ (by first | decide | omega))
  have q97_17_M2 : (M2 97 17 = M 97 17) := (show M2 97 17 = M 97 17 by rw [hM2]; exact mu_ne _ _ (by first | decide | omega))
  have q97_21_M2 : (M2 97 21 = M 97 21) := (show M2 97 21 = M 97 21 by rw [hM2]; exact mu_ne _ _ (by first | decide | omega))
  have CM2_108 : M2 108 = ms (M 108) v1.toNat a := by rw [hM2, mu_is]
  have CM2_109 : M2 109 = M 109 := by rw [hM2, mu_cell _ _ (by decide)]
  refine g_aload_n (pc' := 11) 0 dX10_emit_10 rfl rfl ?_
  refine g_getR (pc' := 14) dX10_emit_11 rfl f_X10_49 rfl rfl ?_
  refine g_aload_n (pc' := 15) 0 dX10_emit_14 rfl rfl ?_
  refine g_getI (pc' := 18) dX10_emit_15 rfl f_X10_191 rfl rfl (fun v3 ev3 rv3 => ?_)
  have av3 : v3 = M 97 21 := ev3.trans q97_21_M2
  obtain rfl : v1 = v3 := av1.trans av3.symm
  refine g_iload_n (pc' := 19) 2 dX10_emit_18 rfl rfl ?_
  refine g_iast (pc' := 20) dX10_emit_19 rfl rfl (by omega) (by omega) hb (fun M4 hM4 => ?_)
  have iM4 : IM M4 := IM.wr iM2 hM4 (by unfold okv; first | decide | omega)
  have fM4 : Fr (fun c => c = 97 ∨ c = 108 ∨ c = 109) M M4 := Fr.wr fM2 hM4 (by first | decide | omega | (dsimp only; omega))
  have q97_12_M4 : (M4 97 12 = M 97 12) := (show M4 97 12 = M2 97 12 by rw [hM4]; exact mu_ne _ _ (by first | decide | omega)).trans q97_12_M2
  have q97_19_M4 : (M4 97 19 = M 97 19) := (show M4 97 19 = M2 97 19 by rw [hM4]; exact mu_ne _ _ (by first | decide | omega)).trans q97_19_M2
  have q97_24_M4 : (M4 97 24 = M 97 24) := (show M4 97 24 = M2 97 24 by rw [hM4]; exact mu_ne _ _ (by first | decide | omega)).trans q97_24_M2
  have q97_27_M4 : (M4 97 27 = M 97 27) := (show M4 97 27 = M2 97 27 by rw [hM4]; exact mu_ne _ _ (by first | decide | omega)).trans q97_27_M2
  have q97_28_M4 : (M4 97 28 = M 97 28) := (show M4 97 28 = M2 97 28 by rw [hM4]; exact mu_ne _ _ (by first | decide | omega)).trans q97_28_M2
  have q97_10_M4 : (M4 97 10 = M 97 10) := (show M4 97 10 = M2 97 10 by rw [hM4]; exact mu_ne _ _ (by first | decide | omega)).trans q97_10_M2
  have q97_44_M4 : (M4 97 44 = M 97 44) := (show M4 97 44 = M2 97 44 by rw [hM4]; exact mu_ne _ _ (by first | decide | omega)).trans q97_44_M2
  have q97_33_M4 : (M4 97 33 = M 97 33) := (show M4 97 33 = M2 97 33 by rw [hM4]; exact mu_ne _ _ (by first | decide | omega)).trans q97_33_M2
  have q97_13_M4 : (M4 97 13 = M 97 13) := (show M4 97 13 = M2 97 13 by rw [hM4]; exact mu_ne _ _ (by first | decide | omega)).trans q97_13_M2
  have q97_14_M4 : (M4 97 14 = M 97 14) := (show M4 97 14 = M2 97 14 by rw [hM4]; exact mu_ne _ _ (by first | decide | omega)).trans q97_14_M2
  have q97_15_M4 : (M4 97 15 = M 97 15) := (show M4 97 15 = M2 97 15 by rw [hM4]; exact mu_ne _ _ (by first | decide | omega)).trans q97_15_M2
  have q97_16_M4 : (M4 97 16 = M 97 16) := (show M4 97 16 = M2 97 16 by rw [hM4]; exact mu_ne _ _ (by first | decide | omega)).trans q97_16_M2
  have q97_18_M4 : (M4 97 18 = M 97 18) := (show M4 97 18 = M2 97 18 by rw [hM4]; exact mu_ne _ _ (by first | decide | omega)).trans q97_18_M2
  have q97_17_M4 : (M4 97 17 = M 97 17) := (show M4 97 17 = M2 97 17 by rw [hM4]; exact mu_ne _ _ (by first | decide | omega)).trans q97_17_M2
  have q97_21_M4 : (M4 97 21 = M 97 21) := (show M4 97 21 = M2 97 21 by rw [hM4]; exact mu_ne _ _ (by first | decide | omega)).trans q97_21_M2
  have CM4_108 : M4 108 = ms (M 108) v1.toNat a := by rw [hM4, mu_cell _ _ (by decide), CM2_108]
  have CM4_109 : M4 109 = ms (M 109) v1.toNat b := by rw [hM4, mu_is, CM2_109]
  refine g_aload_n (pc' := 21) 0 dX10_emit_20 rfl rfl ?_
  refine g_dup (pc' := 22) dX10_emit_21 rfl rfl ?_
  refine g_getI (pc' := 25) dX10_emit_22 rfl f_X10_191 rfl rfl (fun v5 ev5 rv5 => ?_)
  have av5 : v5 = M 97 21 := ev5.trans q97_21_M4
  obtain rfl : v1 = v5 := av1.trans av5.symm
  refine g_iconst (pc' := 26) dX10_emit_25 rfl ?_
  refine g_iadd (pc' := 27) dX10_emit_26 rfl ?_
  refine g_putI (pc' := 30) dX10_emit_27 rfl p_X10_191 rfl rfl ⟨by omega, by omega⟩ (fun M6 hM6 => ?_)
  have iM6 : IM M6 := IM.wr iM4 hM6 (by unfold okv; first | decide | omega)
  have fM6 : Fr (fun c => c = 97 ∨ c = 108 ∨ c = 109) M M6 := Fr.wr fM4 hM6 (by first | decide | omega | (dsimp only; omega))
  have q97_12_M6 : (M6 97 12 = M 97 12) := (show M6 97 12 = M4 97 12 by rw [hM6]; exact mu_ne _ _ (by first | decide | omega)).trans q97_12_M4
  have q97_19_M6 : (M6 97 19 = M 97 19) := (show M6 97 19 = M4 97 19 by rw [hM6]; exact mu_ne _ _ (by first | decide | omega)).trans q97_19_M4
  have q97_24_M6 : (M6 97 24 = M 97 24) := (show M6 97 24 = M4 97 24 by rw [hM6]; exact mu_ne _ _ (by first | decide | omega)).trans q97_24_M4
  have q97_27_M6 : (M6 97 27 = M 97 27) := (show M6 97 27 = M4 97 27 by rw [hM6]; exact mu_ne _ _ (by first | decide | omega)).trans q97_27_M4
  have q97_28_M6 : (M6 97 28 = M 97 28) := (show M6 97 28 = M4 97 28 by rw [hM6]; exact mu_ne _ _ (by first | decide | omega)).trans q97_28_M4
  have q97_10_M6 : (M6 97 10 = M 97 10) := (show M6 97 10 = M4 97 10 by rw [hM6]; exact mu_ne _ _ (by first | decide | omega)).trans q97_10_M4
  have q97_44_M6 : (M6 97 44 = M 97 44) := (show M6 97 44 = M4 97 44 by rw [hM6]; exact mu_ne _ _ (by first | decide | omega)).trans q97_44_M4
  have q97_33_M6 : (M6 97 33 = M 97 33) := (show M6 97 33 = M4 97 33 by rw [hM6]; exact mu_ne _ _ (by first | decide | omega)).trans q97_33_M4
  have q97_13_M6 : (M6 97 13 = M 97 13) := (show M6 97 13 = M4 97 13 by rw [hM6]; exact mu_ne _ _ (by first | decide | omega)).trans q97_13_M4
  have q97_14_M6 : (M6 97 14 = M 97 14) := (show M6 97 14 = M4 97 14 by rw [hM6]; exact mu_ne _ _ (by first | decide | omega)).trans q97_14_M4
  have q97_15_M6 : (M6 97 15 = M 97 15) := (show M6 97 15 = M4 97 15 by rw [hM6]; exact mu_ne _ _ (by first | decide | omega)).trans q97_15_M4
  have q97_16_M6 : (M6 97 16 = M 97 16) := (show M6 97 16 = M4 97 16 by rw [hM6]; exact mu_ne _ _ (by first | decide | omega)).trans q97_16_M4
  have q97_18_M6 : (M6 97 18 = M 97 18) := (show M6 97 18 = M4 97 18 by rw [hM6]; exact mu_ne _ _ (by first | decide | omega)).trans q97_18_M4
  have q97_17_M6 : (M6 97 17 = M 97 17) := (show M6 97 17 = M4 97 17 by rw [hM6]; exact mu_ne _ _ (by first | decide | omega)).trans q97_17_M4
  have xM6_97_21 : M6 97 21 = v1 + 1 := by rw [hM6]; exact mu_at _ _ _ _
  have CM6_108 : M6 108 = ms (M 108) v1.toNat a := by rw [hM6, mu_cell _ _ (by decide), CM4_108]
  have CM6_109 : M6 109 = ms (M 109) v1.toNat b := by rw [hM6, mu_cell _ _ (by decide), CM4_109]
  refine g_vreturn dX10_emit_30 ?_
  exact ⟨iM6, fM6, q97_12_M6, q97_19_M6, q97_24_M6, q97_27_M6, q97_28_M6, q97_10_M6, q97_44_M6, q97_33_M6, q97_13_M6, q97_14_M6, q97_15_M6, q97_16_M6, q97_18_M6, q97_17_M6, by rw [CM6_108, av1], by rw [CM6_109, av1], by omega⟩
set_option maxHeartbeats 4000000 in
set_option maxRecDepth 100000 in
theorem c_X10_push_x (X : Cx) (M : Mm) (hi : IM M) (a : Int) (ha : inI a) (b : Int) (hb : inI b) (hn : 0 ≤ M 97 27 ∧ M 97 27 < 400) : Con X 0 yX10_push cX10_push 3 none [vr X 97, vi a, vi b] M (Qv (fun M1 => IM M1 ∧ Fr (fun c => c = 97 ∨ c = 110 ∨ c = 111) M M1 ∧ M1 97 12 = M 97 12 ∧ M1 97 19 = M 97 19 ∧ M1 97 21 = M 97 21 ∧ M1 97 24 = M 97 24 ∧ M1 97 28 = M 97 28 ∧ M1 97 10 = M 97 10 ∧ M1 97 44 = M 97 44 ∧ M1 97 33 = M 97 33 ∧ M1 97 13 = M 97 13 ∧ M1 97 14 = M 97 14 ∧ M1 97 15 = M 97 15 ∧ M1 97 16 = M 97 16 ∧ M1 97 18 = M 97 18 ∧ M1 97 17 = M 97 17 ∧ (M1 110 = ms (M 110) (M 97 27).toNat a ∧ M1 111 = ms (M 111) (M 97 27).toNat b ∧ M1 97 27 = M 97 27 + 1))) := by
  refine Con.ofG rfl (Nat.le_of_ble_eq_true rfl) ?_
  show G X 0 RX10 cX10_push 3 none (Qv (fun M1 => IM M1 ∧ Fr (fun c => c = 97 ∨ c = 110 ∨ c = 111) M M1 ∧ M1 97 12 = M 97 12 ∧ M1 97 19 = M 97 19 ∧ M1 97 21 = M 97 21 ∧ M1 97 24 = M 97 24 ∧ M1 97 28 = M 97 28 ∧ M1 97 10 = M 97 10 ∧ M1 97 44 = M 97 44 ∧ M1 97 33 = M 97 33 ∧ M1 97 13 = M 97 13 ∧ M1 97 14 = M 97 14 ∧ M1 97 15 = M 97 15 ∧ M1 97 16 = M 97 16 ∧ M1 97 18 = M 97 18 ∧ M1 97 17 = M 97 17 ∧ (M1 110 = ms (M 110) (M 97 27).toNat a ∧ M1 111 = ms (M 111) (M 97 27).toNat b ∧ M1 97 27 = M 97 27 + 1))) 0 [(0, vr X 97), (1, vi a), (2, vi b)] [] M
  refine g_aload_n (pc' := 1) 0 dX10_push_0 rfl rfl ?_
  refine g_getR (pc' := 4) dX10_push_1 rfl f_X10_52 rfl rfl ?_
  refine g_aload_n (pc' := 5) 0 dX10_push_4 rfl rfl ?_
  refine g_getI (pc' := 8) dX10_push_5 rfl f_X10_194 rfl rfl (fun v1 ev1 rv1 => ?_)
  have av1 : v1 = M 97 27 := ev1
  refine g_iload_n (pc' := 9) 1 dX10_push_8 rfl rfl ?_
  refine g_iast (pc' := 10) dX10_push_9 rfl rfl (by omega) (by omega) ha (fun M2 hM2 => ?_)
  have iM2 : IM M2 := IM.wr hi hM2 (by unfold okv; first | decide | omega)
  have fM2 : Fr (fun c => c = 97 ∨ c = 110 ∨ c = 111) M M2 := Fr.wr Fr.rf hM2 (by first | decide | omega | (dsimp only; omega))
  have q97_12_M2 : (M2 97 12 = M 97 12) := (show M2 97 12 = M 97 12 by rw [hM2]; exact mu_ne _ _ (by first | decide | omega))
  have q97_19_M2 : (M2 97 19 = M 97 19) := (show M2 97 19 = M 97 19 by rw [hM2]; exact mu_ne _ _ (by first | decide | omega))
  have q97_21_M2 : (M2 97 21 = M 97 21) := (show M2 97 21 = M 97 21 by rw [hM2]; exact mu_ne _ _ (by first | decide | omega))
  have q97_24_M2 : (M2 97 24 = M 97 24) := (show M2 97 24 = M 97 24 by rw [hM2]; exact mu_ne _ _ (by first | decide | omega))
  have q97_28_M2 : (M2 97 28 = M 97 28) := (show M2 97 28 = M 97 28 by rw [hM2]; exact mu_ne _ _ (by first | decide | omega))
  have q97_10_M2 : (M2 97 10 = M 97 10) := (show M2 97 10 = M 97 10 by rw [hM2]; exact mu_ne _ _ (by first | decide | omega))
  have q97_44_M2 : (M2 97 44 = M 97 44) := (show M2 97 44 = M 97 44 by rw [hM2]; exact mu_ne _ _ (by first | decide | omega))
  have q97_33_M2 : (M2 97 33 = M 97 33) := (show M2 97 33 = M 97 33 by rw [hM2]; exact mu_ne _ _ (by first | decide | omega))
  have q97_13_M2 : (M2 97 13 = M 97 13) := (show M2 97 13 = M 97 13 by rw [hM2]; exact mu_ne _ _ (by first | decide | omega))
  have q97_14_M2 : (M2 97 14 = M 97 14) := (show M2 97 14 = M 97 14 by rw [hM2]; exact mu_ne _ _ (by first | decide | omega))
  have q97_15_M2 : (M2 97 15 = M 97 15) := (show M2 97 15 = M 97 15 by rw [hM2]; exact mu_ne _ _ (by first | decide | omega))
  have q97_16_M2 : (M2 97 16 = M 97 16) := (show M2 97 16 = M 97 16 by rw [hM2]; exact mu_ne _ _ (by first | decide | omega))
  have q97_18_M2 : (M2 97 18 = M 97 18) := (show M2 97 18 = M 97 18 by rw [hM2]; exact mu_ne _ _ (by first | decide | omega))
  have q97_17_M2 : (M2 97 17 = M 97 17) := (show M2 97 17 = M 97 17 by rw [hM2]; exact mu_ne _ _ (by first | decide | omega))
  have q97_27_M2 : (M2 97 27 = M 97 27) := (show M2 97 27 = M 97 27 by rw [hM2]; exact mu_ne _ _ (by first | decide | omega))
  have CM2_110 : M2 110 = ms (M 110) v1.toNat a := by rw [hM2, mu_is]
  have CM2_111 : M2 111 = M 111 := by rw [hM2, mu_cell _ _ (by decide)]
  refine g_aload_n (pc' := 11) 0 dX10_push_10 rfl rfl ?_
  refine g_getR (pc' := 14) dX10_push_11 rfl f_X10_55 rfl rfl ?_
  refine g_aload_n (pc' := 15) 0 dX10_push_14 rfl rfl ?_
  refine g_getI (pc' := 18) dX10_push_15 rfl f_X10_194 rfl rfl (fun v3 ev3 rv3 => ?_)
  have av3 : v3 = M 97 27 := ev3.trans q97_27_M2
  obtain rfl : v1 = v3 := av1.trans av3.symm
  refine g_iload_n (pc' := 19) 2 dX10_push_18 rfl rfl ?_
  refine g_iast (pc' := 20) dX10_push_19 rfl rfl (by omega) (by omega) hb (fun M4 hM4 => ?_)
  have iM4 : IM M4 := IM.wr iM2 hM4 (by unfold okv; first | decide | omega)
  have fM4 : Fr (fun c => c = 97 ∨ c = 110 ∨ c = 111) M M4 := Fr.wr fM2 hM4 (by first | decide | omega | (dsimp only; omega))
  have q97_12_M4 : (M4 97 12 = M 97 12) := (show M4 97 12 = M2 97 12 by rw [hM4]; exact mu_ne _ _ (by first | decide | omega)).trans q97_12_M2
  have q97_19_M4 : (M4 97 19 = M 97 19) := (show M4 97 19 = M2 97 19 by rw [hM4]; exact mu_ne _ _ (by first | decide | omega)).trans q97_19_M2
  have q97_21_M4 : (M4 97 21 = M 97 21) := (show M4 97 21 = M2 97 21 by rw [hM4]; exact mu_ne _ _ (by first | decide | omega)).trans q97_21_M2
  have q97_24_M4 : (M4 97 24 = M 97 24) := (show M4 97 24 = M2 97 24 by rw [hM4]; exact mu_ne _ _ (by first | decide | omega)).trans q97_24_M2
  have q97_28_M4 : (M4 97 28 = M 97 28) := (show M4 97 28 = M2 97 28 by rw [hM4]; exact mu_ne _ _ (by first | decide | omega)).trans q97_28_M2
  have q97_10_M4 : (M4 97 10 = M 97 10) := (show M4 97 10 = M2 97 10 by rw [hM4]; exact mu_ne _ _ (by first | decide | omega)).trans q97_10_M2
  have q97_44_M4 : (M4 97 44 = M 97 44) := (show M4 97 44 = M2 97 44 by rw [hM4]; exact mu_ne _ _ (by first | decide | omega)).trans q97_44_M2
  have q97_33_M4 : (M4 97 33 = M 97 33) := (show M4 97 33 = M2 97 33 by rw [hM4]; exact mu_ne _ _ (by first | decide | omega)).trans q97_33_M2
  have q97_13_M4 : (M4 97 13 = M 97 13) := (show M4 97 13 = M2 97 13 by rw [hM4]; exact mu_ne _ _ (by first | decide | omega)).trans q97_13_M2
  have q97_14_M4 : (M4 97 14 = M 97 14) := (show M4 97 14 = M2 97 14 by rw [hM4]; exact mu_ne _ _ (by first | decide | omega)).trans q97_14_M2
  have q97_15_M4 : (M4 97 15 = M 97 15) := (show M4 97 15 = M2 97 15 by rw [hM4]; exact mu_ne _ _ (by first | decide | omega)).trans q97_15_M2
  have q97_16_M4 : (M4 97 16 = M 97 16) := (show M4 97 16 = M2 97 16 by rw [hM4]; exact mu_ne _ _ (by first | decide | omega)).trans q97_16_M2
  have q97_18_M4 : (M4 97 18 = M 97 18) := (show M4 97 18 = M2 97 18 by rw [hM4]; exact mu_ne _ _ (by first | decide | omega)).trans q97_18_M2
  have q97_17_M4 : (M4 97 17 = M 97 17) := (show M4 97 17 = M2 97 17 by rw [hM4]; exact mu_ne _ _ (by first | decide | omega)).trans q97_17_M2
  have q97_27_M4 : (M4 97 27 = M 97 27) := (show M4 97 27 = M2 97 27 by rw [hM4]; exact mu_ne _ _ (by first | decide | omega)).trans q97_27_M2
  have CM4_110 : M4 110 = ms (M 110) v1.toNat a := by rw [hM4, mu_cell _ _ (by decide), CM2_110]
  have CM4_111 : M4 111 = ms (M 111) v1.toNat b := by rw [hM4, mu_is, CM2_111]
  refine g_aload_n (pc' := 21) 0 dX10_push_20 rfl rfl ?_
  refine g_dup (pc' := 22) dX10_push_21 rfl rfl ?_
  refine g_getI (pc' := 25) dX10_push_22 rfl f_X10_194 rfl rfl (fun v5 ev5 rv5 => ?_)
  have av5 : v5 = M 97 27 := ev5.trans q97_27_M4
  obtain rfl : v1 = v5 := av1.trans av5.symm
  refine g_iconst (pc' := 26) dX10_push_25 rfl ?_
  refine g_iadd (pc' := 27) dX10_push_26 rfl ?_
  refine g_putI (pc' := 30) dX10_push_27 rfl p_X10_194 rfl rfl ⟨by omega, by omega⟩ (fun M6 hM6 => ?_)
  have iM6 : IM M6 := IM.wr iM4 hM6 (by unfold okv; first | decide | omega)
  have fM6 : Fr (fun c => c = 97 ∨ c = 110 ∨ c = 111) M M6 := Fr.wr fM4 hM6 (by first | decide | omega | (dsimp only; omega))
  have q97_12_M6 : (M6 97 12 = M 97 12) := (show M6 97 12 = M4 97 12 by rw [hM6]; exact mu_ne _ _ (by first | decide | omega)).trans q97_12_M4
  have q97_19_M6 : (M6 97 19 = M 97 19) := (show M6 97 19 = M4 97 19 by rw [hM6]; exact mu_ne _ _ (by first | decide | omega)).trans q97_19_M4
  have q97_21_M6 : (M6 97 21 = M 97 21) := (show M6 97 21 = M4 97 21 by rw [hM6]; exact mu_ne _ _ (by first | decide | omega)).trans q97_21_M4
  have q97_24_M6 : (M6 97 24 = M 97 24) := (show M6 97 24 = M4 97 24 by rw [hM6]; exact mu_ne _ _ (by first | decide | omega)).trans q97_24_M4
  have q97_28_M6 : (M6 97 28 = M 97 28) := (show M6 97 28 = M4 97 28 by rw [hM6]; exact mu_ne _ _ (by first | decide | omega)).trans q97_28_M4
  have q97_10_M6 : (M6 97 10 = M 97 10) := (show M6 97 10 = M4 97 10 by rw [hM6]; exact mu_ne _ _ (by first | decide | omega)).trans q97_10_M4
  have q97_44_M6 : (M6 97 44 = M 97 44) := (show M6 97 44 = M4 97 44 by rw [hM6]; exact mu_ne _ _ (by first | decide | omega)).trans q97_44_M4
  have q97_33_M6 : (M6 97 33 = M 97 33) := (show M6 97 33 = M4 97 33 by rw [hM6]; exact mu_ne _ _ (by first | decide | omega)).trans q97_33_M4
  have q97_13_M6 : (M6 97 13 = M 97 13) := (show M6 97 13 = M4 97 13 by rw [hM6]; exact mu_ne _ _ (by first | decide | omega)).trans q97_13_M4
  have q97_14_M6 : (M6 97 14 = M 97 14) := (show M6 97 14 = M4 97 14 by rw [hM6]; exact mu_ne _ _ (by first | decide | omega)).trans q97_14_M4
  have q97_15_M6 : (M6 97 15 = M 97 15) := (show M6 97 15 = M4 97 15 by rw [hM6]; exact mu_ne _ _ (by first | decide | omega)).trans q97_15_M4
  have q97_16_M6 : (M6 97 16 = M 97 16) := (show M6 97 16 = M4 97 16 by rw [hM6]; exact mu_ne _ _ (by first | decide | omega)).trans q97_16_M4
  have q97_18_M6 : (M6 97 18 = M 97 18) := (show M6 97 18 = M4 97 18 by rw [hM6]; exact mu_ne _ _ (by first | decide | omega)).trans q97_18_M4
  have q97_17_M6 : (M6 97 17 = M 97 17) := (show M6 97 17 = M4 97 17 by rw [hM6]; exact mu_ne _ _ (by first | decide | omega)).trans q97_17_M4
  have xM6_97_27 : M6 97 27 = v1 + 1 := by rw [hM6]; exact mu_at _ _ _ _
  have CM6_110 : M6 110 = ms (M 110) v1.toNat a := by rw [hM6, mu_cell _ _ (by decide), CM4_110]
  have CM6_111 : M6 111 = ms (M 111) v1.toNat b := by rw [hM6, mu_cell _ _ (by decide), CM4_111]
  refine g_vreturn dX10_push_30 ?_
  exact ⟨iM6, fM6, q97_12_M6, q97_19_M6, q97_21_M6, q97_24_M6, q97_28_M6, q97_10_M6, q97_44_M6, q97_33_M6, q97_13_M6, q97_14_M6, q97_15_M6, q97_16_M6, q97_18_M6, q97_17_M6, by rw [CM6_110, av1], by rw [CM6_111, av1], by omega⟩
