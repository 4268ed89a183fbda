set_option maxHeartbeats 4000000 in
set_option maxRecDepth 100000 in
theorem c_X1_canBe_x (X : Cx) (M : Mm) (hi : IC M) (w : Int) (hw : inI w) (a : Int) (ha : inI a) (b : Int) (hb : inI b) (hw6 : 0 ≤ w ∧ w ≤ 6) (ha20 : 0 ≤ a ∧ a ≤ 20) (hgw : 0 ≤ M 88 w.toNat ∧ M 88 w.toNat ≤ 100) (hgs : 0 ≤ M 89 w.toNat ∧ M 89 w.toNat ≤ 100) : Con X 1 yX1_canBe cX1_canBe 6 (some .boolean) [vr X 84, vi w, vi a, vi b] M (Qi (fun r M1 => M1 = M ∧ ((r = 1 ∧ (a ≤ M 87 w.toNat ∧ a * M 88 w.toNat ≤ b ∧ b ≤ a * M 89 w.toNat)) ∨ (r = 0 ∧ (M 87 w.toNat < a ∨ b < a * M 88 w.toNat ∨ a * M 89 w.toNat < b))))) := by
  refine Con.ofG rfl (Nat.le_of_ble_eq_true rfl) ?_
  show G X 1 RX1 cX1_canBe 6 (some .boolean) (Qi (fun r M1 => M1 = M ∧ ((r = 1 ∧ (a ≤ M 87 w.toNat ∧ a * M 88 w.toNat ≤ b ∧ b ≤ a * M 89 w.toNat)) ∨ (r = 0 ∧ (M 87 w.toNat < a ∨ b < a * M 88 w.toNat ∨ a * M 89 w.toNat < b))))) 0 [(0, vr X 84), (1, vi w), (2, vi a), (3, vi b)] [] M
  refine g_iload_n (pc' := 1) 2 dX1_canBe_0 rfl rfl ?_
  refine g_aload_n (pc' := 2) 0 dX1_canBe_1 rfl rfl ?_
  refine g_getR (pc' := 5) dX1_canBe_2 rfl f_X1_21 rfl rfl ?_
  refine g_iload_n (pc' := 6) 1 dX1_canBe_5 rfl rfl ?_
  refine g_iald (pc' := 7) dX1_canBe_6 rfl rfl (by omega) (by omega) (fun v1 ev1 rv1 => ?_)
  refine g_imul (pc' := 8) dX1_canBe_7 rfl ?_
  have ma := mulC (x := a) (v := v1) (B := 20) (C := 100) (by omega) (by omega) (by omega) (by omega)
  have ka : a * v1 = a * M 88 w.toNat := by rw [ev1]
  obtain ⟨x2, ex2⟩ : ∃ z : Int, z = a * v1 := ⟨_, rfl⟩
  rw [← ex2]
  refine g_istore (pc' := 10) (L' := [(4, vi x2), (0, vr X 84), (1, vi w), (2, vi a), (3, vi b)]) dX1_canBe_8 rfl (by decide) rfl ?_
  refine g_iload_n (pc' := 11) 3 dX1_canBe_10 rfl rfl ?_
  refine g_aload_n (pc' := 12) 1 dX1_canBe_11 rfl rfl ?_
  refine g_getR (pc' := 15) dX1_canBe_12 rfl f_X1_24 rfl rfl ?_
  refine g_iload_n (pc' := 16) 2 dX1_canBe_15 rfl rfl ?_
  refine g_iald (pc' := 17) dX1_canBe_16 rfl rfl (by omega) (by omega) (fun v3 ev3 rv3 => ?_)
  refine g_imul (pc' := 18) dX1_canBe_17 rfl ?_
  have mb := mulC (x := a) (v := v3) (B := 20) (C := 100) (by omega) (by omega) (by omega) (by omega)
  have kb : a * v3 = a * M 89 w.toNat := by rw [ev3]
  obtain ⟨x4, ex4⟩ : ∃ z : Int, z = a * v3 := ⟨_, rfl⟩
  rw [← ex4]
  refine g_istore (pc' := 20) (L' := [(5, vi x4), (4, vi x2), (0, vr X 84), (1, vi w), (2, vi a), (3, vi b)]) dX1_canBe_18 rfl (by decide) rfl ?_
  refine g_iload_n (pc' := 21) 4 dX1_canBe_20 rfl rfl ?_
  refine g_aload_n (pc' := 22) 2 dX1_canBe_21 rfl rfl ?_
  refine g_getR (pc' := 25) dX1_canBe_22 rfl f_X1_18 rfl rfl ?_
  refine g_iload_n (pc' := 26) 3 dX1_canBe_25 rfl rfl ?_
  refine g_iald (pc' := 27) dX1_canBe_26 rfl rfl (by omega) (by omega) (fun v5 ev5 rv5 => ?_)
  refine g_ic_gt (pc' := 30) (tgt := 45) ha rv5 dX1_canBe_27 rfl rfl (fun c6 => ?_) (fun c6 => ?_)
  · refine g_iconst (pc' := 46) dX1_canBe_45 rfl ?_
    refine g_zreturn dX1_canBe_46 (by omega) ?_
    exact ⟨rfl, by omega⟩
  · refine g_iload_n (pc' := 31) 5 dX1_canBe_30 rfl rfl ?_
    refine g_iload (pc' := 33) 1 dX1_canBe_31 rfl rfl ?_
    refine g_iload (pc' := 35) 0 dX1_canBe_33 rfl rfl ?_
    refine g_callSip (pc' := 38) (As := [vi b, vi x2, vi x4]) (S := []) dX1_canBe_35 rfl m_X1_72 w_X9_isWithin (c_X9_isWithin X M b hb x2 ⟨by omega, by omega⟩ x4 ⟨by omega, by omega⟩) rfl (by decide) (by decide) rfl (Nat.le_of_ble_eq_true rfl) (fun z8 q7 => ?_)
    refine g_if_eq (pc' := 41) (tgt := 45) ⟨by omega, by omega⟩ dX1_canBe_38 rfl rfl (fun c9 => ?_) (fun c9 => ?_)
    · replace q7 := q7.resolve_left (fun h => absurd (c9.symm.trans h.1) (by decide))
      refine g_iconst (pc' := 46) dX1_canBe_45 rfl ?_
      refine g_zreturn dX1_canBe_46 (by omega) ?_
      exact ⟨rfl, by omega⟩
    · replace q7 := q7.resolve_right (fun h => c9 h.1)
      refine g_iconst (pc' := 42) dX1_canBe_41 rfl ?_
      refine g_goto (tgt := 46) dX1_canBe_42 rfl ?_
      refine g_zreturn dX1_canBe_46 (by omega) ?_
      exact ⟨rfl, by omega⟩
set_option maxHeartbeats 4000000 in
set_option maxRecDepth 100000 in
theorem c_X1_canBeCheaper_x (X : Cx) (M : Mm) (hi : IC M) (w : Int) (hw : inI w) (a : Int) (ha : inI a) (b : Int) (hb : inI b) (hw6 : 0 ≤ w ∧ w ≤ 6) (ha20 : 0 ≤ a ∧ a ≤ 20) (hb4 : 0 ≤ b ∧ b ≤ 4000) (hgc : 0 ≤ M 90 w.toNat ∧ M 90 w.toNat ≤ 99) : Con X 1 yX1_canBeCheaper cX1_canBeCheaper 4 (some .boolean) [vr X 84, vi w, vi a, vi b] M (Qi (fun r M1 => M1 = M ∧ ((r = 1 ∧ (M 84 2 = -1 ∨ b + a * M 90 w.toNat < M 84 2)) ∨ (r = 0 ∧ (M 84 2 ≠ -1 ∧ M 84 2 ≤ b + a * M 90 w.toNat))))) := by
  refine Con.ofG rfl (Nat.le_of_ble_eq_true rfl) ?_
  show G X 1 RX1 cX1_canBeCheaper 4 (some .boolean) (Qi (fun r M1 => M1 = M ∧ ((r = 1 ∧ (M 84 2 = -1 ∨ b + a * M 90 w.toNat < M 84 2)) ∨ (r = 0 ∧ (M 84 2 ≠ -1 ∧ M 84 2 ≤ b + a * M 90 w.toNat))))) 0 [(0, vr X 84), (1, vi w), (2, vi a), (3, vi b)] [] M
  refine g_aload_n (pc' := 1) 0 dX1_canBeCheaper_0 rfl rfl ?_
  refine g_getI (pc' := 4) dX1_canBeCheaper_1 rfl f_X1_30 rfl rfl (fun v1 ev1 rv1 => ?_)
  refine g_iconst (pc' := 5) dX1_canBeCheaper_4 rfl ?_
  refine g_ic_eq (pc' := 8) (tgt := 25) rv1 (by decide) dX1_canBeCheaper_5 rfl rfl (fun c2 => ?_) (fun c2 => ?_)
  · refine g_iconst (pc' := 26) dX1_canBeCheaper_25 rfl ?_
    refine g_goto (tgt := 30) dX1_canBeCheaper_26 rfl ?_
    refine g_zreturn dX1_canBeCheaper_30 (by omega) ?_
    exact ⟨rfl, by omega⟩
  · refine g_iload_n (pc' := 9) 3 dX1_canBeCheaper_8 rfl rfl ?_
    refine g_iload_n (pc' := 10) 2 dX1_canBeCheaper_9 rfl rfl ?_
    refine g_aload_n (pc' := 11) 0 dX1_canBeCheaper_10 rfl rfl ?_
    refine g_getR (pc' := 14) dX1_canBeCheaper_11 rfl f_X1_27 rfl rfl ?_
    refine g_iload_n (pc' := 15) 1 dX1_canBeCheaper_14 rfl rfl ?_
    refine g_iald (pc' := 16) dX1_canBeCheaper_15 rfl rfl (by omega) (by omega) (fun v3 ev3 rv3 => ?_)
    refine g_imul (pc' := 17) dX1_canBeCheaper_16 rfl ?_
    have ma := mulC (x := a) (v := v3) (B := 20) (C := 99) (by omega) (by omega) (by omega) (by omega)
    have ka : a * v3 = a * M 90 w.toNat := by rw [ev3]
    refine g_iadd (pc' := 18) dX1_canBeCheaper_17 rfl ?_
    refine g_aload_n (pc' := 19) 0 dX1_canBeCheaper_18 rfl rfl ?_
    refine g_getI (pc' := 22) dX1_canBeCheaper_19 rfl f_X1_30 rfl rfl (fun v4 ev4 rv4 => ?_)
    obtain rfl : v1 = v4 := ev1.trans ev4.symm
    refine g_ic_ge (pc' := 25) (tgt := 29) ⟨by omega, by omega⟩ rv1 dX1_canBeCheaper_22 rfl rfl (fun c5 => ?_) (fun c5 => ?_)
    · refine g_iconst (pc' := 30) dX1_canBeCheaper_29 rfl ?_
      refine g_zreturn dX1_canBeCheaper_30 (by omega) ?_
      exact ⟨rfl, by omega⟩
    · refine g_iconst (pc' := 26) dX1_canBeCheaper_25 rfl ?_
      refine g_goto (tgt := 30) dX1_canBeCheaper_26 rfl ?_
      refine g_zreturn dX1_canBeCheaper_30 (by omega) ?_
      exact ⟨rfl, by omega⟩
set_option maxHeartbeats 4000000 in
set_option maxRecDepth 100000 in
theorem l_X1_take_x_100 (X : Cx) (M : Mm) (hi : IC M) (w : Int) (hw : inI w) (al : Int) (hal : inI al) (sl : Int) (hsl : inI sl) (pr : Int) (hpr : inI pr) (hx : MX M) (hwn : 0 ≤ w ∧ w ≤ M 1 6) (ha20 : 0 ≤ al ∧ al ≤ 20) (hp2 : 0 ≤ pr ∧ pr ≤ 99 * (20 - al)) (hs2 : -100 * (20 - al) ≤ sl ∧ sl ≤ 2000) (hrec : ∀ (M : Mm) (_ : IC M) (al sl pr : Int), inI al → inI sl → inI pr → MX M → w < M 1 6 → (0 ≤ al ∧ al ≤ 20) → (0 ≤ pr ∧ pr ≤ 99 * (20 - al)) → (-100 * (20 - al) ≤ sl ∧ sl ≤ 2000) → Con X (3 + (7 - (w + 1)).toNat) yX1_take cX1_take 10 none [vr X 84, vr X 1, vi (w + 1), vi al, vi sl, vi pr] M (Qv (fun M1 => IC M1 ∧ Fr (fun c => c = 84 ∨ c = 85 ∨ c = 86) M M1 ∧ (TKm M M1 (w + 1) al sl pr)))) : ∀ (kk : Nat) (st : Int) (co : Int) (mo : Int) (tk : Int) (M1 : Mm) (ic1 : IC M1) (fr1 : Fr (fun c => c = 84 ∨ c = 85 ∨ c = 86) M M1) (q1_6 : (M1 1 6 = M 1 6)) (hst : st = M 9 (3 * w).toNat) (hco : co = M 9 (3 * w + 1).toNat) (hmo : mo = if M 9 (3 * w + 2).toNat < al then M 9 (3 * w + 2).toNat else al) (hw5 : w < M 1 6) (h0 : 0 ≤ tk) (h1 : tk ≤ mo + 1) (hT : TKLm M M1 w al sl pr tk), (mo + 1 - tk).toNat = kk → G X (3 + (7 - w).toNat) RX1 cX1_take 10 none (Qv (fun M1 => IC M1 ∧ Fr (fun c => c = 84 ∨ c = 85 ∨ c = 86) M M1 ∧ (TKm M M1 w al sl pr))) 100 [(6, vi st), (7, vi co), (8, vi mo), (9, vi tk), (0, vr X 84), (1, vr X 1), (2, vi w), (3, vi al), (4, vi sl), (5, vi pr)] [] M1 := by
  intro kk
  induction kk using Nat.strongRecOn with
  | ind kk ih =>
    intro st co mo tk M1 ic1 fr1 q1_6 hst hco hmo hw5 h0 h1 hT hmes
    have hb16 := hx.1
    have hwi := hx.wine hwn.1 hw5
    rw [← hst, ← hco] at hwi
    have hmb : mo ≤ al ∧ mo ≤ 20 ∧ -1 ≤ mo := by rw [hmo]; split <;> omega
    refine g_iload (pc' := 102) 3 dX1_take_100 rfl rfl ?_
    refine g_iload (pc' := 104) 2 dX1_take_102 rfl rfl ?_
    refine g_ic_gt (pc' := 107) (tgt := 149) ⟨by omega, by omega⟩ ⟨by omega, by omega⟩ dX1_take_104 rfl rfl (fun c1 => ?_) (fun c1 => ?_)
    · refine g_vreturn dX1_take_149 ?_
      exact ⟨ic1, fr1, TKLm.done hwn.1 hw5 hmo h0 (by omega) (by omega) hT⟩
    · refine g_aload_n (pc' := 108) 4 dX1_take_107 rfl rfl ?_
      refine g_getR (pc' := 111) dX1_take_108 rfl f_X1_9 rfl rfl ?_
      refine g_iload_n (pc' := 112) 6 dX1_take_111 rfl rfl ?_
      refine g_iload (pc' := 114) 3 dX1_take_112 rfl rfl ?_
      refine g_iast (pc' := 115) dX1_take_114 rfl rfl (by omega) (by omega) ⟨by omega, by omega⟩ (fun M2 hM2 => ?_)
      have iM2 : IC M2 := IC.wr ic1 hM2 (by unfold okw isT; first | decide | omega)
      have fM2 : Fr (fun c => c = 84 ∨ c = 85 ∨ c = 86) M M2 := Fr.wr fr1 hM2 (by first | decide | omega | (dsimp only; omega))
      have q1_6_M2 : (M2 1 6 = M 1 6) := (show M2 1 6 = M1 1 6 by rw [hM2]; exact mu_ne _ _ (by first | decide | omega)).trans q1_6
      have hxM2 : MX M2 := (hx.fr fr1 (fun c z => z)).wr hM2 (by decide)
      refine g_aload_n (pc' := 116) 4 dX1_take_115 rfl rfl ?_
      refine g_aload_n (pc' := 117) 5 dX1_take_116 rfl rfl ?_
      refine g_iload_n (pc' := 118) 6 dX1_take_117 rfl rfl ?_
      refine g_iconst (pc' := 119) dX1_take_118 rfl ?_
      refine g_iadd (pc' := 120) dX1_take_119 rfl ?_
      refine g_iload_n (pc' := 121) 7 dX1_take_120 rfl rfl ?_
      refine g_iload (pc' := 123) 3 dX1_take_121 rfl rfl ?_
      refine g_isub (pc' := 124) dX1_take_123 rfl ?_
      refine g_iload (pc' := 126) 8 dX1_take_124 rfl rfl ?_
      refine g_iload (pc' := 128) 3 dX1_take_126 rfl rfl ?_
      refine g_iload (pc' := 130) 0 dX1_take_128 rfl rfl ?_
      refine g_imul (pc' := 131) dX1_take_130 rfl ?_
      have mpp := mulD (x := tk) (v := st) (C := 100) h0 (by omega) (by omega)
      obtain ⟨pp, hpp⟩ : ∃ z : Int, z = tk * st := ⟨_, rfl⟩
      rw [← hpp] at mpp ⊢
      refine g_isub (pc' := 132) dX1_take_131 rfl ?_
      refine g_iload (pc' := 134) 9 dX1_take_132 rfl rfl ?_
      refine g_iload (pc' := 136) 3 dX1_take_134 rfl rfl ?_
      refine g_iload (pc' := 138) 1 dX1_take_136 rfl rfl ?_
      refine g_imul (pc' := 139) dX1_take_138 rfl ?_
      have mpq := mulD (x := tk) (v := co) (C := 99) h0 (by omega) (by omega)
      obtain ⟨pq, hpq⟩ : ∃ z : Int, z = tk * co := ⟨_, rfl⟩
      rw [← hpq] at mpq ⊢
      refine g_iadd (pc' := 140) dX1_take_139 rfl ?_
      refine g_callVv (pc' := 143) (As := [vr X 1, vi (w + 1), vi (al - tk), vi (sl - pp), vi (pr + pq)]) (b := 84) (S := []) dX1_take_140 rfl m_X1_38 w_X1_take (hrec M2 iM2 (al - tk) (sl - pp) (pr + pq) ⟨by omega, by omega⟩ ⟨by omega, by omega⟩ ⟨by omega, by omega⟩ hxM2 (by omega) (by omega) (by omega) (by omega)) rfl ⟨_, _, _, rfl, rfl, rfl⟩ (by omega) (by decide) rfl (Nat.le_of_ble_eq_true rfl) (fun M4 q3 => ?_)
      obtain ⟨iM4, fM40, pM4⟩ := q3
      have fM4 : Fr (fun c => c = 84 ∨ c = 85 ∨ c = 86) M M4 := Fr.tr fM2 fM40 (fun _ z => z)
      have q1_6_M4 : (M4 1 6 = M 1 6) := (congrFun (fM40 1 (by first | decide | omega | (dsimp only; omega))) 6).trans q1_6_M2
      have tlM4 : TKLm M M4 w al sl pr (tk + 1) := TKLm.step hx hwn.1 hw5 (by omega) (by omega) hst hco hmo h0 (by omega) hpp hpq fr1 (fun c z => z) hT hM2 pM4
      refine g_iinc (pc' := 146) (L' := [(9, vi (tk + 1)), (6, vi st), (7, vi co), (8, vi mo), (0, vr X 84), (1, vr X 1), (2, vi w), (3, vi al), (4, vi sl), (5, vi pr)]) 3 dX1_take_143 rfl rfl (by decide) rfl ?_
      refine g_goto (tgt := 100) dX1_take_146 rfl ?_
      refine g_sub [1, 2, 3, 0, 4, 5, 6, 7, 8, 9] rfl ?_
      exact ih _ (by omega) st co mo (tk + 1) M4 iM4 fM4 q1_6_M4 hst hco hmo (by omega) (by omega) (by omega) tlM4 rfl
set_option maxHeartbeats 4000000 in
set_option maxRecDepth 100000 in
theorem c_X1_take_x (X : Cx) (M : Mm) (hi : IC M) (w : Int) (hw : inI w) (al : Int) (hal : inI al) (sl : Int) (hsl : inI sl) (pr : Int) (hpr : inI pr) (hx : MX M) (hwn : 0 ≤ w ∧ w ≤ M 1 6) (ha20 : 0 ≤ al ∧ al ≤ 20) (hp2 : 0 ≤ pr ∧ pr ≤ 99 * (20 - al)) (hs2 : -100 * (20 - al) ≤ sl ∧ sl ≤ 2000) (hrec : ∀ (M : Mm) (_ : IC M) (al sl pr : Int), inI al → inI sl → inI pr → MX M → w < M 1 6 → (0 ≤ al ∧ al ≤ 20) → (0 ≤ pr ∧ pr ≤ 99 * (20 - al)) → (-100 * (20 - al) ≤ sl ∧ sl ≤ 2000) → Con X (3 + (7 - (w + 1)).toNat) yX1_take cX1_take 10 none [vr X 84, vr X 1, vi (w + 1), vi al, vi sl, vi pr] M (Qv (fun M1 => IC M1 ∧ Fr (fun c => c = 84 ∨ c = 85 ∨ c = 86) M M1 ∧ (TKm M M1 (w + 1) al sl pr)))) : Con X (3 + (7 - w).toNat) yX1_take cX1_take 10 none [vr X 84, vr X 1, vi w, vi al, vi sl, vi pr] M (Qv (fun M1 => IC M1 ∧ Fr (fun c => c = 84 ∨ c = 85 ∨ c = 86) M M1 ∧ (TKm M M1 w al sl pr))) := by
  refine Con.ofG rfl (Nat.le_of_ble_eq_true rfl) ?_
  show G X (3 + (7 - w).toNat) RX1 cX1_take 10 none (Qv (fun M1 => IC M1 ∧ Fr (fun c => c = 84 ∨ c = 85 ∨ c = 86) M M1 ∧ (TKm M M1 w al sl pr))) 0 [(0, vr X 84), (1, vr X 1), (2, vi w), (3, vi al), (4, vi sl), (5, vi pr)] [] M
  have hb16 := hx.1
  have hmx := hx.at hwn.1 hwn.2
  refine g_aload_n (pc' := 1) 0 dX1_take_0 rfl rfl ?_
  refine g_iload_n (pc' := 2) 2 dX1_take_1 rfl rfl ?_
  refine g_iload_n (pc' := 3) 3 dX1_take_2 rfl rfl ?_
  refine g_iload (pc' := 5) 4 dX1_take_3 rfl rfl ?_
  refine g_callVip (pc' := 8) (As := [vi w, vi al, vi sl]) (b := 84) (S := []) dX1_take_5 rfl m_X1_59 w_X1_canBe (c_X1_canBe_x X M hi w hw al hal sl hsl (by omega) (by omega) hmx.2.2.2.2.1 hmx.2.2.2.2.2.1) rfl ⟨_, _, _, rfl, rfl, rfl⟩ (by omega) (by decide) rfl (Nat.le_of_ble_eq_true rfl) (fun z2 q1 => ?_)
  refine g_if_eq (pc' := 11) (tgt := 22) ⟨by omega, by omega⟩ dX1_take_8 rfl rfl (fun c3 => ?_) (fun c3 => ?_)
  · replace q1 := q1.resolve_left (fun h => absurd (c3.symm.trans h.1) (by decide))
    refine g_vreturn dX1_take_22 ?_
    exact ⟨hi, Fr.rf, TKm.cut1 hx hwn.1 hwn.2 q1.2⟩
  · replace q1 := q1.resolve_right (fun h => c3 h.1)
    refine g_aload_n (pc' := 12) 0 dX1_take_11 rfl rfl ?_
    refine g_iload_n (pc' := 13) 2 dX1_take_12 rfl rfl ?_
    refine g_iload_n (pc' := 14) 3 dX1_take_13 rfl rfl ?_
    refine g_iload (pc' := 16) 5 dX1_take_14 rfl rfl ?_
    refine g_callVip (pc' := 19) (As := [vi w, vi al, vi pr]) (b := 84) (S := []) dX1_take_16 rfl m_X1_63 w_X1_canBeCheaper (c_X1_canBeCheaper_x X M hi w hw al hal pr hpr (by omega) (by omega) (by omega) hmx.2.2.2.2.2.2) rfl ⟨_, _, _, rfl, rfl, rfl⟩ (by omega) (by decide) rfl (Nat.le_of_ble_eq_true rfl) (fun z5 q4 => ?_)
    refine g_if_ne (pc' := 22) (tgt := 23) ⟨by omega, by omega⟩ dX1_take_19 rfl rfl (fun c6 => ?_) (fun c6 => ?_)
    · replace q4 := q4.resolve_right (fun h => c6 h.1)
      refine g_iload_n (pc' := 24) 2 dX1_take_23 rfl rfl ?_
      refine g_aload_n (pc' := 25) 1 dX1_take_24 rfl rfl ?_
      refine g_getI (pc' := 28) dX1_take_25 rfl f_X1_42 rfl rfl (fun v7 ev7 rv7 => ?_)
      have bv7 : 0 ≤ v7 ∧ v7 ≤ 6 := by rw [ev7]; exact hi.2.1.1.2.2
      have av7 : v7 = M 1 6 := ev7
      refine g_ic_ge (pc' := 31) (tgt := 37) hw rv7 dX1_take_28 rfl rfl (fun c8 => ?_) (fun c8 => ?_)
      · refine g_aload_n (pc' := 38) 0 dX1_take_37 rfl rfl ?_
        refine g_iload (pc' := 40) 5 dX1_take_38 rfl rfl ?_
        refine g_putI (pc' := 43) dX1_take_40 rfl p_X1_30 rfl rfl hpr (fun M9 hM9 => ?_)
        have iM9 : IC M9 := IC.wr hi hM9 (by unfold okw isT; first | decide | omega)
        have fM9 : Fr (fun c => c = 84 ∨ c = 85 ∨ c = 86) M M9 := Fr.wr Fr.rf hM9 (by first | decide | omega | (dsimp only; omega))
        have q1_6_M9 : (M9 1 6 = M 1 6) := (show M9 1 6 = M 1 6 by rw [hM9]; exact mu_ne _ _ (by first | decide | omega))
        have xM9_84_2 : M9 84 2 = pr := by rw [hM9]; exact mu_at _ _ _ _
        refine g_aload_n (pc' := 44) 0 dX1_take_43 rfl rfl ?_
        refine g_getR (pc' := 47) dX1_take_44 rfl f_X1_9 rfl rfl ?_
        refine g_iconst (pc' := 48) dX1_take_47 rfl ?_
        refine g_aload_n (pc' := 49) 0 dX1_take_48 rfl rfl ?_
        refine g_getR (pc' := 52) dX1_take_49 rfl f_X1_15 rfl rfl ?_
        refine g_iconst (pc' := 53) dX1_take_52 rfl ?_
        refine g_bipush (pc' := 55) (v := 6) dX1_take_53 rfl (by decide) ?_
        refine g_copyI (pc' := 58) (sp := 0) (dp := 0) (n := 6) dX1_take_55 rfl m_X1_66 mn_copy ms_copy mi_Sys rfl rfl (by decide) (by decide) (by omega) (Nat.le_of_ble_eq_true rfl) (fun M10 hM10 => ?_)
        have iM10 : IC M10 := IC.cp iM9 hM10 (by unfold free isT; omega)
        have fM10 : Fr (fun c => c = 84 ∨ c = 85 ∨ c = 86) M M10 := Fr.cp fM9 hM10 (by first | decide | omega | (dsimp only; omega))
        have q1_6_M10 : (M10 1 6 = M 1 6) := (congrFun (show M10 1 = M9 1 by rw [hM10]; exact mcp_cell _ (by first | decide | omega)) 6).trans q1_6_M9
        have xM10_84_2 : M10 84 2 = pr := (show M10 84 2 = M9 84 2 by rw [hM10]; exact congrFun (mcp_cell _ (by first | decide | omega)) 2).trans xM9_84_2
        refine g_vreturn dX1_take_58 ?_
        exact ⟨iM10, fM10, TKm.leaf hx hwn.1 hwn.2 (by omega) ha20.1 q1.2 q4.2 hM9 hM10⟩
      · refine g_iload_n (pc' := 32) 2 dX1_take_31 rfl rfl ?_
        refine g_bipush (pc' := 34) (v := 6) dX1_take_32 rfl (by decide) ?_
        refine g_ic_lt (pc' := 37) (tgt := 59) hw (by decide) dX1_take_34 rfl rfl (fun c11 => ?_) (fun c11 => ?_)
        · refine g_aload_n (pc' := 60) 1 dX1_take_59 rfl rfl ?_
          refine g_getR (pc' := 63) dX1_take_60 rfl f_X1_53 rfl rfl ?_
          refine g_iconst (pc' := 64) dX1_take_63 rfl ?_
          refine g_iload_n (pc' := 65) 2 dX1_take_64 rfl rfl ?_
          refine g_imul (pc' := 66) dX1_take_65 rfl ?_
          refine g_iald (pc' := 67) dX1_take_66 rfl rfl (by omega) (by omega) (fun v12 ev12 rv12 => ?_)
          refine g_istore (pc' := 69) (L' := [(6, vi v12), (0, vr X 84), (1, vr X 1), (2, vi w), (3, vi al), (4, vi sl), (5, vi pr)]) dX1_take_67 rfl (by decide) rfl ?_
          refine g_aload_n (pc' := 70) 2 dX1_take_69 rfl rfl ?_
          refine g_getR (pc' := 73) dX1_take_70 rfl f_X1_53 rfl rfl ?_
          refine g_iconst (pc' := 74) dX1_take_73 rfl ?_
          refine g_iload_n (pc' := 75) 3 dX1_take_74 rfl rfl ?_
          refine g_imul (pc' := 76) dX1_take_75 rfl ?_
          refine g_iconst (pc' := 77) dX1_take_76 rfl ?_
          refine g_iadd (pc' := 78) dX1_take_77 rfl ?_
          refine g_iald (pc' := 79) dX1_take_78 rfl rfl (by omega) (by omega) (fun v13 ev13 rv13 => ?_)
          refine g_istore (pc' := 81) (L' := [(7, vi v13), (6, vi v12), (0, vr X 84), (1, vr X 1), (2, vi w), (3, vi al), (4, vi sl), (5, vi pr)]) dX1_take_79 rfl (by decide) rfl ?_
          refine g_iload_n (pc' := 82) 5 dX1_take_81 rfl rfl ?_
          refine g_aload_n (pc' := 83) 3 dX1_take_82 rfl rfl ?_
          refine g_getR (pc' := 86) dX1_take_83 rfl f_X1_53 rfl rfl ?_
          refine g_iconst (pc' := 87) dX1_take_86 rfl ?_
          refine g_iload_n (pc' := 88) 4 dX1_take_87 rfl rfl ?_
          refine g_imul (pc' := 89) dX1_take_88 rfl ?_
          refine g_iconst (pc' := 90) dX1_take_89 rfl ?_
          refine g_iadd (pc' := 91) dX1_take_90 rfl ?_
          refine g_iald (pc' := 92) dX1_take_91 rfl rfl (by omega) (by omega) (fun v14 ev14 rv14 => ?_)
          refine g_mmin (pc' := 95) dX1_take_92 rfl m_X1_47 ms_min mi_Math mc_min (by omega) (Nat.le_of_ble_eq_true rfl) hal rv14 ?_
          obtain ⟨v15, ev15⟩ : ∃ z : Int, z = if v14 < al then v14 else al := ⟨_, rfl⟩
          rw [← ev15]
          refine g_istore (pc' := 97) (L' := [(8, vi v15), (7, vi v13), (6, vi v12), (0, vr X 84), (1, vr X 1), (2, vi w), (3, vi al), (4, vi sl), (5, vi pr)]) dX1_take_95 rfl (by decide) rfl ?_
          refine g_iconst (pc' := 98) dX1_take_97 rfl ?_
          refine g_istore (pc' := 100) (L' := [(9, vi 0), (8, vi v15), (7, vi v13), (6, vi v12), (0, vr X 84), (1, vr X 1), (2, vi w), (3, vi al), (4, vi sl), (5, vi pr)]) dX1_take_98 rfl (by decide) rfl ?_
          refine g_sub [3, 2, 1, 0, 4, 5, 6, 7, 8, 9] rfl ?_
          exact l_X1_take_x_100 X M hi w hw al hal sl hsl pr hpr hx hwn ha20 hp2 hs2 hrec _ v12 v13 v15 0 M hi Fr.rf rfl ev12 ev13 (by rw [← ev14]; exact ev15) (by omega) (by omega) (by have z := hx.wine hwn.1 (show w < M 1 6 by omega); have y := ev15; rw [ev14] at y; split at y <;> omega) TKLm.start rfl
        · refine g_aload_n (pc' := 38) 0 dX1_take_37 rfl rfl ?_
          refine g_iload (pc' := 40) 5 dX1_take_38 rfl rfl ?_
          refine g_putI (pc' := 43) dX1_take_40 rfl p_X1_30 rfl rfl hpr (fun M16 hM16 => ?_)
          have iM16 : IC M16 := IC.wr hi hM16 (by unfold okw isT; first | decide | omega)
          have fM16 : Fr (fun c => c = 84 ∨ c = 85 ∨ c = 86) M M16 := Fr.wr Fr.rf hM16 (by first | decide | omega | (dsimp only; omega))
          have q1_6_M16 : (M16 1 6 = M 1 6) := (show M16 1 6 = M 1 6 by rw [hM16]; exact mu_ne _ _ (by first | decide | omega))
          have xM16_84_2 : M16 84 2 = pr := by rw [hM16]; exact mu_at _ _ _ _
          refine g_aload_n (pc' := 44) 0 dX1_take_43 rfl rfl ?_
          refine g_getR (pc' := 47) dX1_take_44 rfl f_X1_9 rfl rfl ?_
          refine g_iconst (pc' := 48) dX1_take_47 rfl ?_
          refine g_aload_n (pc' := 49) 0 dX1_take_48 rfl rfl ?_
          refine g_getR (pc' := 52) dX1_take_49 rfl f_X1_15 rfl rfl ?_
          refine g_iconst (pc' := 53) dX1_take_52 rfl ?_
          refine g_bipush (pc' := 55) (v := 6) dX1_take_53 rfl (by decide) ?_
          refine g_copyI (pc' := 58) (sp := 0) (dp := 0) (n := 6) dX1_take_55 rfl m_X1_66 mn_copy ms_copy mi_Sys rfl rfl (by decide) (by decide) (by omega) (Nat.le_of_ble_eq_true rfl) (fun M17 hM17 => ?_)
          have iM17 : IC M17 := IC.cp iM16 hM17 (by unfold free isT; omega)
          have fM17 : Fr (fun c => c = 84 ∨ c = 85 ∨ c = 86) M M17 := Fr.cp fM16 hM17 (by first | decide | omega | (dsimp only; omega))
          have q1_6_M17 : (M17 1 6 = M 1 6) := (congrFun (show M17 1 = M16 1 by rw [hM17]; exact mcp_cell _ (by first | decide | omega)) 6).trans q1_6_M16
          have xM17_84_2 : M17 84 2 = pr := (show M17 84 2 = M16 84 2 by rw [hM17]; exact congrFun (mcp_cell _ (by first | decide | omega)) 2).trans xM16_84_2
          refine g_vreturn dX1_take_58 ?_
          exact ⟨iM17, fM17, TKm.leaf hx hwn.1 hwn.2 (by omega) ha20.1 q1.2 q4.2 hM16 hM17⟩
    · replace q4 := q4.resolve_left (fun h => absurd (c6.symm.trans h.1) (by decide))
      refine g_vreturn dX1_take_22 ?_
      exact ⟨hi, Fr.rf, TKm.cut2 hx hwn.1 hwn.2 q4.2⟩
theorem r_take_x (X : Cx) : ∀ (k : Nat) (w : Int), 0 ≤ w → (7 - w).toNat = k → ∀ (M : Mm) (_ : IC M) (al sl pr : Int), inI al → inI sl → inI pr → MX M → w ≤ M 1 6 → (0 ≤ al ∧ al ≤ 20) → (0 ≤ pr ∧ pr ≤ 99 * (20 - al)) → (-100 * (20 - al) ≤ sl ∧ sl ≤ 2000) → Con X (3 + (7 - w).toNat) yX1_take cX1_take 10 none [vr X 84, vr X 1, vi w, vi al, vi sl, vi pr] M (Qv (fun M1 => IC M1 ∧ Fr (fun c => c = 84 ∨ c = 85 ∨ c = 86) M M1 ∧ (TKm M M1 w al sl pr))) := by
  intro k
  induction k using Nat.strongRecOn with
  | ind k ih =>
    intro w h0 hk M hi al sl pr h1 h2 h3 hx hw h4 h5 h6
    have hw2 : inI w := ⟨by omega, by have := hx.1; omega⟩
    have hb := hx.1
    exact c_X1_take_x X M hi w hw2 al h1 sl h2 pr h3 hx ⟨h0, hw⟩ h4 h5 h6 (fun M hi al sl pr h1 h2 h3 hx hw h4 h5 h6 => ih _ (by have := hx.1; omega) (w + 1) (by omega) rfl M hi al sl pr h1 h2 h3 hx (by omega) h4 h5 h6)
set_option maxHeartbeats 4000000 in
set_option maxRecDepth 100000 in
theorem l_X1_lookBehind_x_44 (X : Cx) (M : Mm) (hi : IC M) (hwk : wOK (M 9) 0 (M 1 6).toNat) : ∀ (kk : Nat) (i : Int) (M1 : Mm) (ic1 : IC M1) (fr1 : Fr (fun c => 87 ≤ c ∧ c ≤ 90) M M1) (h0 : -1 ≤ i) (h1 : i ≤ 5) (h2 : i < M 1 6) (hag : AGP M1 (M 9) (M 1 6).toNat (i + 1)), (i + 1).toNat = kk → G X 1 RX1 cX1_lookBehind 4 none (Qv (fun M1 => IC M1 ∧ Fr (fun c => 87 ≤ c ∧ c ≤ 90) M M1 ∧ (AGP M1 (M 9) (M 1 6).toNat 0))) 44 [(3, vi i), (0, vr X 84), (1, vr X 1)] [] M1 := by
  intro kk
  induction kk using Nat.strongRecOn with
  | ind kk ih =>
    intro i M1 ic1 fr1 h0 h1 h2 hag hmes
    have hb16 := hi.2.1.1.2.2
    refine g_iload_n (pc' := 45) 0 dX1_lookBehind_44 rfl rfl ?_
    refine g_if_lt (pc' := 48) (tgt := 156) ⟨by omega, by omega⟩ dX1_lookBehind_45 rfl rfl (fun c1 => ?_) (fun c1 => ?_)
    · refine g_vreturn dX1_lookBehind_156 ?_
      exact ⟨ic1, fr1, (fun j g1 g2 => hag j (by omega) g2)⟩
    · refine g_aload_n (pc' := 49) 1 dX1_lookBehind_48 rfl rfl ?_
      refine g_getR (pc' := 52) dX1_lookBehind_49 rfl f_X1_21 rfl rfl ?_
      refine g_iload_n (pc' := 53) 0 dX1_lookBehind_52 rfl rfl ?_
      refine g_aload_n (pc' := 54) 1 dX1_lookBehind_53 rfl rfl ?_
      refine g_getR (pc' := 57) dX1_lookBehind_54 rfl f_X1_21 rfl rfl ?_
      refine g_iload_n (pc' := 58) 0 dX1_lookBehind_57 rfl rfl ?_
      refine g_iconst (pc' := 59) dX1_lookBehind_58 rfl ?_
      refine g_iadd (pc' := 60) dX1_lookBehind_59 rfl ?_
      refine g_iald (pc' := 61) dX1_lookBehind_60 rfl rfl (by omega) (by omega) (fun v2 ev2 rv2 => ?_)
      refine g_aload_n (pc' := 62) 2 dX1_lookBehind_61 rfl rfl ?_
      refine g_getR (pc' := 65) dX1_lookBehind_62 rfl f_X1_53 rfl rfl ?_
      refine g_iconst (pc' := 66) dX1_lookBehind_65 rfl ?_
      refine g_iload_n (pc' := 67) 0 dX1_lookBehind_66 rfl rfl ?_
      refine g_imul (pc' := 68) dX1_lookBehind_67 rfl ?_
      refine g_iald (pc' := 69) dX1_lookBehind_68 rfl rfl (by omega) (by omega) (fun v3 ev3 rv3 => ?_)
      refine g_mmin (pc' := 72) dX1_lookBehind_69 rfl m_X1_47 ms_min mi_Math mc_min (by decide) (Nat.le_of_ble_eq_true rfl) rv2 rv3 ?_
      obtain ⟨v4, ev4⟩ : ∃ z : Int, z = if v3 < v2 then v3 else v2 := ⟨_, rfl⟩
      rw [← ev4]
      refine g_iast (pc' := 73) dX1_lookBehind_72 rfl rfl (by omega) (by omega) ⟨by omega, by omega⟩ (fun M5 hM5 => ?_)
      have iM5 : IC M5 := IC.wr ic1 hM5 (by unfold okw isT; first | decide | omega)
      have fM5 : Fr (fun c => 87 ≤ c ∧ c ≤ 90) M M5 := Fr.wr fr1 hM5 (by first | decide | omega | (dsimp only; omega))
      refine g_aload_n (pc' := 74) 1 dX1_lookBehind_73 rfl rfl ?_
      refine g_getR (pc' := 77) dX1_lookBehind_74 rfl f_X1_24 rfl rfl ?_
      refine g_iload_n (pc' := 78) 0 dX1_lookBehind_77 rfl rfl ?_
      refine g_aload_n (pc' := 79) 1 dX1_lookBehind_78 rfl rfl ?_
      refine g_getR (pc' := 82) dX1_lookBehind_79 rfl f_X1_24 rfl rfl ?_
      refine g_iload_n (pc' := 83) 0 dX1_lookBehind_82 rfl rfl ?_
      refine g_iconst (pc' := 84) dX1_lookBehind_83 rfl ?_
      refine g_iadd (pc' := 85) dX1_lookBehind_84 rfl ?_
      refine g_iald (pc' := 86) dX1_lookBehind_85 rfl rfl (by omega) (by omega) (fun v6 ev6 rv6 => ?_)
      refine g_aload_n (pc' := 87) 2 dX1_lookBehind_86 rfl rfl ?_
      refine g_getR (pc' := 90) dX1_lookBehind_87 rfl f_X1_53 rfl rfl ?_
      refine g_iconst (pc' := 91) dX1_lookBehind_90 rfl ?_
      refine g_iload_n (pc' := 92) 0 dX1_lookBehind_91 rfl rfl ?_
      refine g_imul (pc' := 93) dX1_lookBehind_92 rfl ?_
      refine g_iald (pc' := 94) dX1_lookBehind_93 rfl rfl (by omega) (by omega) (fun v7 ev7 rv7 => ?_)
      refine g_mmax (pc' := 97) dX1_lookBehind_94 rfl m_X1_56 ms_max mi_Math mc_max (by decide) (Nat.le_of_ble_eq_true rfl) rv6 rv7 ?_
      obtain ⟨v8, ev8⟩ : ∃ z : Int, z = if v6 < v7 then v7 else v6 := ⟨_, rfl⟩
      rw [← ev8]
      refine g_iast (pc' := 98) dX1_lookBehind_97 rfl rfl (by omega) (by omega) ⟨by omega, by omega⟩ (fun M9 hM9 => ?_)
      have iM9 : IC M9 := IC.wr iM5 hM9 (by unfold okw isT; first | decide | omega)
      have fM9 : Fr (fun c => 87 ≤ c ∧ c ≤ 90) M M9 := Fr.wr fM5 hM9 (by first | decide | omega | (dsimp only; omega))
      refine g_aload_n (pc' := 99) 1 dX1_lookBehind_98 rfl rfl ?_
      refine g_getR (pc' := 102) dX1_lookBehind_99 rfl f_X1_27 rfl rfl ?_
      refine g_iload_n (pc' := 103) 0 dX1_lookBehind_102 rfl rfl ?_
      refine g_aload_n (pc' := 104) 1 dX1_lookBehind_103 rfl rfl ?_
      refine g_getR (pc' := 107) dX1_lookBehind_104 rfl f_X1_27 rfl rfl ?_
      refine g_iload_n (pc' := 108) 0 dX1_lookBehind_107 rfl rfl ?_
      refine g_iconst (pc' := 109) dX1_lookBehind_108 rfl ?_
      refine g_iadd (pc' := 110) dX1_lookBehind_109 rfl ?_
      refine g_iald (pc' := 111) dX1_lookBehind_110 rfl rfl (by omega) (by omega) (fun v10 ev10 rv10 => ?_)
      refine g_aload_n (pc' := 112) 2 dX1_lookBehind_111 rfl rfl ?_
      refine g_getR (pc' := 115) dX1_lookBehind_112 rfl f_X1_53 rfl rfl ?_
      refine g_iconst (pc' := 116) dX1_lookBehind_115 rfl ?_
      refine g_iload_n (pc' := 117) 0 dX1_lookBehind_116 rfl rfl ?_
      refine g_imul (pc' := 118) dX1_lookBehind_117 rfl ?_
      refine g_iconst (pc' := 119) dX1_lookBehind_118 rfl ?_
      refine g_iadd (pc' := 120) dX1_lookBehind_119 rfl ?_
      refine g_iald (pc' := 121) dX1_lookBehind_120 rfl rfl (by omega) (by omega) (fun v11 ev11 rv11 => ?_)
      refine g_mmin (pc' := 124) dX1_lookBehind_121 rfl m_X1_47 ms_min mi_Math mc_min (by decide) (Nat.le_of_ble_eq_true rfl) rv10 rv11 ?_
      obtain ⟨v12, ev12⟩ : ∃ z : Int, z = if v11 < v10 then v11 else v10 := ⟨_, rfl⟩
      rw [← ev12]
      refine g_iast (pc' := 125) dX1_lookBehind_124 rfl rfl (by omega) (by omega) ⟨by omega, by omega⟩ (fun M13 hM13 => ?_)
      have iM13 : IC M13 := IC.wr iM9 hM13 (by unfold okw isT; first | decide | omega)
      have fM13 : Fr (fun c => 87 ≤ c ∧ c ≤ 90) M M13 := Fr.wr fM9 hM13 (by first | decide | omega | (dsimp only; omega))
      refine g_aload_n (pc' := 126) 1 dX1_lookBehind_125 rfl rfl ?_
      refine g_getR (pc' := 129) dX1_lookBehind_126 rfl f_X1_18 rfl rfl ?_
      refine g_iload_n (pc' := 130) 0 dX1_lookBehind_129 rfl rfl ?_
      refine g_aload_n (pc' := 131) 1 dX1_lookBehind_130 rfl rfl ?_
      refine g_getR (pc' := 134) dX1_lookBehind_131 rfl f_X1_18 rfl rfl ?_
      refine g_iload_n (pc' := 135) 0 dX1_lookBehind_134 rfl rfl ?_
      refine g_iconst (pc' := 136) dX1_lookBehind_135 rfl ?_
      refine g_iadd (pc' := 137) dX1_lookBehind_136 rfl ?_
      refine g_iald (pc' := 138) dX1_lookBehind_137 rfl rfl (by omega) (by omega) (fun v14 ev14 rv14 => ?_)
      have bv14 : 0 ≤ v14 ∧ v14 ≤ 120 := by
        rw [ev14, hM13, mu_cell _ _ (by decide), hM9, mu_cell _ _ (by decide), hM5, mu_cell _ _ (by decide), (hag (i + 1).toNat (by omega) (by omega)).1]
        have z := (ag_b ((M 1 6).toNat - (i + 1).toNat) (i + 1).toNat (fun j a b => hwk j (by omega) (by omega))).1
        omega
      refine g_aload_n (pc' := 139) 2 dX1_lookBehind_138 rfl rfl ?_
      refine g_getR (pc' := 142) dX1_lookBehind_139 rfl f_X1_53 rfl rfl ?_
      refine g_iconst (pc' := 143) dX1_lookBehind_142 rfl ?_
      refine g_iload_n (pc' := 144) 0 dX1_lookBehind_143 rfl rfl ?_
      refine g_imul (pc' := 145) dX1_lookBehind_144 rfl ?_
      refine g_iconst (pc' := 146) dX1_lookBehind_145 rfl ?_
      refine g_iadd (pc' := 147) dX1_lookBehind_146 rfl ?_
      refine g_iald (pc' := 148) dX1_lookBehind_147 rfl rfl (by omega) (by omega) (fun v15 ev15 rv15 => ?_)
      have bv15 : 0 ≤ v15 ∧ v15 ≤ 20 := by
        rw [ev15, hM13, mu_cell _ _ (by decide), hM9, mu_cell _ _ (by decide), hM5, mu_cell _ _ (by decide), fr1 9 (by decide), show (3 * i + 2).toNat = 3 * i.toNat + 2 by omega]
        exact (hwk i.toNat (by omega) (by omega)).2.2
      refine g_iadd (pc' := 149) dX1_lookBehind_148 rfl ?_
      refine g_iast (pc' := 150) dX1_lookBehind_149 rfl rfl (by omega) (by omega) ⟨by omega, by omega⟩ (fun M16 hM16 => ?_)
      have iM16 : IC M16 := IC.wr iM13 hM16 (by unfold okw isT; first | decide | omega)
      have fM16 : Fr (fun c => 87 ≤ c ∧ c ≤ 90) M M16 := Fr.wr fM13 hM16 (by first | decide | omega | (dsimp only; omega))
      have agM16 : AGP M16 (M 9) (M 1 6).toNat i := AGP.step hag (fr1 9 (by decide)) (by omega) (by omega) hM5 hM9 hM13 hM16 ev2 ev3 ev4 ev6 ev7 ev8 ev10 ev11 ev12 ev14 ev15 rfl
      refine g_iinc (pc' := 153) (L' := [(3, vi (i + (-1))), (0, vr X 84), (1, vr X 1)]) 0 dX1_lookBehind_150 rfl rfl (by decide) rfl ?_
      refine g_goto (tgt := 44) dX1_lookBehind_153 rfl ?_
      refine g_sub [0, 1, 2] rfl ?_
      exact ih _ (by omega) (i + (-1)) M16 iM16 fM16 (by omega) (by omega) (by omega) (by rw [show i + (-1) + 1 = i by omega]; exact agM16) rfl
set_option maxHeartbeats 4000000 in
set_option maxRecDepth 100000 in
theorem c_X1_lookBehind_x (X : Cx) (M : Mm) (hi : IC M) (hwk : wOK (M 9) 0 (M 1 6).toNat) : Con X 1 yX1_lookBehind cX1_lookBehind 4 none [vr X 84, vr X 1] M (Qv (fun M1 => IC M1 ∧ Fr (fun c => 87 ≤ c ∧ c ≤ 90) M M1 ∧ (AGP M1 (M 9) (M 1 6).toNat 0))) := by
  refine Con.ofG rfl (Nat.le_of_ble_eq_true rfl) ?_
  show G X 1 RX1 cX1_lookBehind 4 none (Qv (fun M1 => IC M1 ∧ Fr (fun c => 87 ≤ c ∧ c ≤ 90) M M1 ∧ (AGP M1 (M 9) (M 1 6).toNat 0))) 0 [(0, vr X 84), (1, vr X 1)] [] M
  have hb16 := hi.2.1.1.2.2
  refine g_aload_n (pc' := 1) 1 dX1_lookBehind_0 rfl rfl ?_
  refine g_getI (pc' := 4) dX1_lookBehind_1 rfl f_X1_42 rfl rfl (fun v1 ev1 rv1 => ?_)
  have bv1 : 0 ≤ v1 ∧ v1 ≤ 6 := by rw [ev1]; exact hi.2.1.1.2.2
  refine g_bipush (pc' := 6) (v := 6) dX1_lookBehind_4 rfl (by decide) ?_
  refine g_mmin (pc' := 9) dX1_lookBehind_6 rfl m_X1_47 ms_min mi_Math mc_min (by decide) (Nat.le_of_ble_eq_true rfl) rv1 (by decide) ?_
  obtain ⟨v2, ev2⟩ : ∃ z : Int, z = if 6 < v1 then 6 else v1 := ⟨_, rfl⟩
  rw [← ev2]
  refine g_istore_n (pc' := 10) (i := 2) (L' := [(2, vi v2), (0, vr X 84), (1, vr X 1)]) dX1_lookBehind_9 rfl rfl (by decide) rfl ?_
  refine g_aload_n (pc' := 11) 1 dX1_lookBehind_10 rfl rfl ?_
  refine g_getR (pc' := 14) dX1_lookBehind_11 rfl f_X1_18 rfl rfl ?_
  refine g_iload_n (pc' := 15) 0 dX1_lookBehind_14 rfl rfl ?_
  refine g_iconst (pc' := 16) dX1_lookBehind_15 rfl ?_
  refine g_iast (pc' := 17) dX1_lookBehind_16 rfl rfl (by omega) (by omega) (by decide) (fun M3 hM3 => ?_)
  have iM3 : IC M3 := IC.wr hi hM3 (by unfold okw isT; first | decide | omega)
  have fM3 : Fr (fun c => 87 ≤ c ∧ c ≤ 90) M M3 := Fr.wr Fr.rf hM3 (by first | decide | omega | (dsimp only; omega))
  refine g_aload_n (pc' := 18) 1 dX1_lookBehind_17 rfl rfl ?_
  refine g_getR (pc' := 21) dX1_lookBehind_18 rfl f_X1_21 rfl rfl ?_
  refine g_iload_n (pc' := 22) 0 dX1_lookBehind_21 rfl rfl ?_
  refine g_bipush (pc' := 24) (v := 100) dX1_lookBehind_22 rfl (by decide) ?_
  refine g_iast (pc' := 25) dX1_lookBehind_24 rfl rfl (by omega) (by omega) (by decide) (fun M4 hM4 => ?_)
  have iM4 : IC M4 := IC.wr iM3 hM4 (by unfold okw isT; first | decide | omega)
  have fM4 : Fr (fun c => 87 ≤ c ∧ c ≤ 90) M M4 := Fr.wr fM3 hM4 (by first | decide | omega | (dsimp only; omega))
  refine g_aload_n (pc' := 26) 1 dX1_lookBehind_25 rfl rfl ?_
  refine g_getR (pc' := 29) dX1_lookBehind_26 rfl f_X1_24 rfl rfl ?_
  refine g_iload_n (pc' := 30) 0 dX1_lookBehind_29 rfl rfl ?_
  refine g_iconst (pc' := 31) dX1_lookBehind_30 rfl ?_
  refine g_iast (pc' := 32) dX1_lookBehind_31 rfl rfl (by omega) (by omega) (by decide) (fun M5 hM5 => ?_)
  have iM5 : IC M5 := IC.wr iM4 hM5 (by unfold okw isT; first | decide | omega)
  have fM5 : Fr (fun c => 87 ≤ c ∧ c ≤ 90) M M5 := Fr.wr fM4 hM5 (by first | decide | omega | (dsimp only; omega))
  refine g_aload_n (pc' := 33) 1 dX1_lookBehind_32 rfl rfl ?_
  refine g_getR (pc' := 36) dX1_lookBehind_33 rfl f_X1_27 rfl rfl ?_
  refine g_iload_n (pc' := 37) 0 dX1_lookBehind_36 rfl rfl ?_
  refine g_bipush (pc' := 39) (v := 99) dX1_lookBehind_37 rfl (by decide) ?_
  refine g_iast (pc' := 40) dX1_lookBehind_39 rfl rfl (by omega) (by omega) (by decide) (fun M6 hM6 => ?_)
  have iM6 : IC M6 := IC.wr iM5 hM6 (by unfold okw isT; first | decide | omega)
  have fM6 : Fr (fun c => 87 ≤ c ∧ c ≤ 90) M M6 := Fr.wr fM5 hM6 (by first | decide | omega | (dsimp only; omega))
  have agM6 : AGP M6 (M 9) (M 1 6).toNat v2 := AGP.init (by omega) hM3 hM4 hM5 hM6
  refine g_iload_n (pc' := 41) 0 dX1_lookBehind_40 rfl rfl ?_
  refine g_iconst (pc' := 42) dX1_lookBehind_41 rfl ?_
  refine g_isub (pc' := 43) dX1_lookBehind_42 rfl ?_
  refine g_istore_n (pc' := 44) (i := 3) (L' := [(3, vi (v2 - 1)), (2, vi v2), (0, vr X 84), (1, vr X 1)]) dX1_lookBehind_43 rfl rfl (by decide) rfl ?_
  refine g_sub [0, 2, 3] rfl ?_
  exact l_X1_lookBehind_x_44 X M hi hwk _ (v2 - 1) M6 iM6 fM6 (by omega) (by omega) (by omega) (by rw [show v2 - 1 + 1 = v2 by omega]; exact agM6) rfl
set_option maxHeartbeats 4000000 in
set_option maxRecDepth 100000 in
theorem c_X1_leastPrice_x (X : Cx) (M : Mm) (hi : IC M) (a : Int) (ha : inI a) (b : Int) (hb : inI b) (ha20 : 1 ≤ a ∧ a ≤ 20) (hb20 : 0 ≤ b ∧ b ≤ 100) (hwk : wOK (M 9) 0 (M 1 6).toNat) : Con X 11 yX1_leastPrice cX1_leastPrice 4 (some .int) [vr X 84, vr X 1, vi a, vi b] M (Qi (fun r M1 => IC M1 ∧ Fr (fun c => 84 ≤ c ∧ c ≤ 90) M M1 ∧ (inI r ∧ (ls (M 9) 0 (M 1 6).toNat a (a * b) < 1000000 → r = ls (M 9) 0 (M 1 6).toNat a (a * b) ∧ ∀ i : Nat, i < (M 1 6).toNat → M1 86 i = lsR (M 9) 0 (M 1 6).toNat a (a * b) i) ∧ (¬ ls (M 9) 0 (M 1 6).toNat a (a * b) < 1000000 → r = -1)))) := by
  refine Con.ofG rfl (Nat.le_of_ble_eq_true rfl) ?_
  show G X 11 RX1 cX1_leastPrice 4 (some .int) (Qi (fun r M1 => IC M1 ∧ Fr (fun c => 84 ≤ c ∧ c ≤ 90) M M1 ∧ (inI r ∧ (ls (M 9) 0 (M 1 6).toNat a (a * b) < 1000000 → r = ls (M 9) 0 (M 1 6).toNat a (a * b) ∧ ∀ i : Nat, i < (M 1 6).toNat → M1 86 i = lsR (M 9) 0 (M 1 6).toNat a (a * b) i) ∧ (¬ ls (M 9) 0 (M 1 6).toNat a (a * b) < 1000000 → r = -1)))) 0 [(0, vr X 84), (1, vr X 1), (2, vi a), (3, vi b)] [] M
  have hb16 := hi.2.1.1.2.2
  refine g_aload_n (pc' := 1) 0 dX1_leastPrice_0 rfl rfl ?_
  refine g_iconst (pc' := 2) dX1_leastPrice_1 rfl ?_
  refine g_putI (pc' := 5) dX1_leastPrice_2 rfl p_X1_30 rfl rfl (by decide) (fun M1 hM1 => ?_)
  have iM1 : IC M1 := IC.wr hi hM1 (by unfold okw isT; first | decide | omega)
  have fM1 : Fr (fun c => 84 ≤ c ∧ c ≤ 90) M M1 := Fr.wr Fr.rf hM1 (by first | decide | omega | (dsimp only; omega))
  have xM1_84_2 : M1 84 2 = (-1) := by rw [hM1]; exact mu_at _ _ _ _
  refine g_aload_n (pc' := 6) 0 dX1_leastPrice_5 rfl rfl ?_
  refine g_aload_n (pc' := 7) 1 dX1_leastPrice_6 rfl rfl ?_
  refine g_callVv (pc' := 10) (As := [vr X 1]) (b := 84) (S := []) dX1_leastPrice_7 rfl m_X1_34 w_X1_lookBehind (c_X1_lookBehind_x X M1 iM1 (by rw [fM1 9 (by decide), fM1 1 (by decide)]; exact hwk)) rfl ⟨_, _, _, rfl, rfl, rfl⟩ (by decide) (by decide) rfl (Nat.le_of_ble_eq_true rfl) (fun M3 q2 => ?_)
  obtain ⟨iM3, fM30, pM3⟩ := q2
  have fM3 : Fr (fun c => 84 ≤ c ∧ c ≤ 90) M M3 := Fr.tr fM1 fM30 fi_7
  have xM3_84_2 : M3 84 2 = (-1) := (congrFun (fM30 84 (by first | decide | omega | (dsimp only; omega))) 2).trans xM1_84_2
  have e1M3 : M3 1 = M 1 := fM3 1 (by decide)
  have e9M3 : M3 9 = M 9 := fM3 9 (by decide)
  have hxM3 : MX M3 := AGP.mx (M := M) (i := 0) (by have z := pM3; rw [show M1 9 = M 9 from fM1 9 (by decide), show M1 1 = M 1 from fM1 1 (by decide)] at z; exact z) (by omega) hb16 hwk e1M3 e9M3
  refine g_aload_n (pc' := 11) 0 dX1_leastPrice_10 rfl rfl ?_
  refine g_aload_n (pc' := 12) 1 dX1_leastPrice_11 rfl rfl ?_
  refine g_iconst (pc' := 13) dX1_leastPrice_12 rfl ?_
  refine g_iload_n (pc' := 14) 2 dX1_leastPrice_13 rfl rfl ?_
  refine g_iload_n (pc' := 15) 2 dX1_leastPrice_14 rfl rfl ?_
  refine g_iload_n (pc' := 16) 3 dX1_leastPrice_15 rfl rfl ?_
  refine g_imul (pc' := 17) dX1_leastPrice_16 rfl ?_
  have mab := mulC (x := a) (v := b) (B := 20) (C := 100) (by omega) (by omega) (by omega) (by omega)
  refine g_iconst (pc' := 18) dX1_leastPrice_17 rfl ?_
  refine g_callVv (pc' := 21) (As := [vr X 1, vi 0, vi a, vi (a * b), vi 0]) (b := 84) (S := []) dX1_leastPrice_18 rfl m_X1_38 w_X1_take (r_take_x X _ 0 (by omega) rfl M3 iM3 a (a * b) 0 ⟨by omega, by omega⟩ ⟨by omega, by omega⟩ (by decide) hxM3 (by rw [e1M3]; omega) (by omega) (by omega) (by omega)) rfl ⟨_, _, _, rfl, rfl, rfl⟩ (by decide) (by decide) rfl (Nat.le_of_ble_eq_true rfl) (fun M5 q4 => ?_)
  obtain ⟨iM5, fM50, pM5⟩ := q4
  have fM5 : Fr (fun c => 84 ≤ c ∧ c ≤ 90) M M5 := Fr.tr fM3 fM50 fi_8
  refine g_aload_n (pc' := 22) 0 dX1_leastPrice_21 rfl rfl ?_
  refine g_getI (pc' := 25) dX1_leastPrice_22 rfl f_X1_30 rfl rfl (fun v6 ev6 rv6 => ?_)
  refine g_ireturn dX1_leastPrice_25 ?_
  exact ⟨iM5, fM5, ⟨rv6, LPQ (by have z := pM5; unfold TKm at z; rw [e1M3, e9M3] at z; exact z) (by omega) ev6⟩⟩
set_option maxHeartbeats 4000000 in
set_option maxRecDepth 100000 in
theorem c_X9_mix_x (X : Cx) (M : Mm) (hi : IC M) (a : Int) (ha : inI a) (b : Int) (hb : inI b) (c : Int) (hc : inI c) (hwk : wOK (M 9) 0 (M 1 6).toNat) : Con X 12 yX9_mix cX9_mix 5 (some .int) [vr X 0, vi a, vi b, vi c] M (Qi (fun r M1 => IC M1 ∧ Fr (fun c => (84 ≤ c ∧ c ≤ 90) ∨ c = 0 ∨ c = 96) M M1 ∧ M1 2 5 = M 2 5 ∧ M1 1 2 = M 1 2 ∧ M1 1 4 = M 1 4 ∧ M1 1 6 = M 1 6 ∧ M1 11 5 = M 11 5 ∧ M1 10 2 = M 10 2 ∧ M1 10 4 = M 10 4 ∧ M1 10 6 = M 10 6 ∧ M1 20 5 = M 20 5 ∧ M1 19 2 = M 19 2 ∧ M1 19 4 = M 19 4 ∧ M1 19 6 = M 19 6 ∧ M1 29 0 = M 29 0 ∧ M1 29 1 = M 29 1 ∧ M1 31 1 = M 31 1 ∧ (mixQ (M 9) (M 1 6).toNat a b c r))) := by
  refine Con.ofG rfl (Nat.le_of_ble_eq_true rfl) ?_
  show G X 12 RX9 cX9_mix 5 (some .int) (Qi (fun r M1 => IC M1 ∧ Fr (fun c => (84 ≤ c ∧ c ≤ 90) ∨ c = 0 ∨ c = 96) M M1 ∧ M1 2 5 = M 2 5 ∧ M1 1 2 = M 1 2 ∧ M1 1 4 = M 1 4 ∧ M1 1 6 = M 1 6 ∧ M1 11 5 = M 11 5 ∧ M1 10 2 = M 10 2 ∧ M1 10 4 = M 10 4 ∧ M1 10 6 = M 10 6 ∧ M1 20 5 = M 20 5 ∧ M1 19 2 = M 19 2 ∧ M1 19 4 = M 19 4 ∧ M1 19 6 = M 19 6 ∧ M1 29 0 = M 29 0 ∧ M1 29 1 = M 29 1 ∧ M1 31 1 = M 31 1 ∧ (mixQ (M 9) (M 1 6).toNat a b c r))) 0 [(0, vr X 0), (1, vi a), (2, vi b), (3, vi c)] [] M
  have hi5 := (hi.1 2 isT_2).2.1
  have hi4 := (hi.1 2 isT_2).1
  have h12 := hi.2.1.1.1
  have h14 := hi.2.1.1.2.1
  have h16 := hi.2.1.1.2.2
  have hb16 := hi.2.1.1.2.2
  refine g_iload_n (pc' := 1) 1 dX9_mix_0 rfl rfl ?_
  refine g_iconst (pc' := 2) dX9_mix_1 rfl ?_
  refine g_bipush (pc' := 4) (v := 20) dX9_mix_2 rfl (by decide) ?_
  refine g_callSip (pc' := 7) (As := [vi a, vi 1, vi 20]) (S := []) dX9_mix_4 rfl m_X9_191 w_X9_isWithin (c_X9_isWithin X M a ha 1 (by decide) 20 (by decide)) rfl (by decide) (by decide) rfl (Nat.le_of_ble_eq_true rfl) (fun z2 q1 => ?_)
  refine g_if_eq (pc' := 10) (tgt := 20) ⟨by omega, by omega⟩ dX9_mix_7 rfl rfl (fun c3 => ?_) (fun c3 => ?_)
  · replace q1 := q1.resolve_left (fun h => absurd (c3.symm.trans h.1) (by decide))
    refine g_iconst (pc' := 21) dX9_mix_20 rfl ?_
    refine g_ireturn dX9_mix_21 ?_
    exact ⟨hi, Fr.rf, rfl, rfl, rfl, rfl, rfl, rfl, rfl, rfl, rfl, rfl, rfl, rfl, rfl, rfl, rfl, mixQ.no (by omega)⟩
  · replace q1 := q1.resolve_right (fun h => c3 h.1)
    refine g_iload_n (pc' := 11) 2 dX9_mix_10 rfl rfl ?_
    refine g_iconst (pc' := 12) dX9_mix_11 rfl ?_
    refine g_bipush (pc' := 14) (v := 100) dX9_mix_12 rfl (by decide) ?_
    refine g_callSip (pc' := 17) (As := [vi b, vi 0, vi 100]) (S := []) dX9_mix_14 rfl m_X9_191 w_X9_isWithin (c_X9_isWithin X M b hb 0 (by decide) 100 (by decide)) rfl (by decide) (by decide) rfl (Nat.le_of_ble_eq_true rfl) (fun z5 q4 => ?_)
    refine g_if_ne (pc' := 20) (tgt := 22) ⟨by omega, by omega⟩ dX9_mix_17 rfl rfl (fun c6 => ?_) (fun c6 => ?_)
    · replace q4 := q4.resolve_right (fun h => c6 h.1)
      refine g_iload_n (pc' := 23) 3 dX9_mix_22 rfl rfl ?_
      refine g_if_lt (pc' := 26) (tgt := 37) hc dX9_mix_23 rfl rfl (fun c7 => ?_) (fun c7 => ?_)
      · refine g_iconst (pc' := 38) dX9_mix_37 rfl ?_
        refine g_ireturn dX9_mix_38 ?_
        exact ⟨hi, Fr.rf, rfl, rfl, rfl, rfl, rfl, rfl, rfl, rfl, rfl, rfl, rfl, rfl, rfl, rfl, rfl, mixQ.no (by omega)⟩
      · refine g_iload_n (pc' := 27) 3 dX9_mix_26 rfl rfl ?_
        refine g_aload_n (pc' := 28) 0 dX9_mix_27 rfl rfl ?_
        refine g_getR (pc' := 31) dX9_mix_28 rfl f_X9_12 rfl rfl ?_
        refine g_getI (pc' := 34) dX9_mix_31 rfl f_X9_247 rfl rfl (fun v8 ev8 rv8 => ?_)
        have bv8 : 0 ≤ v8 ∧ v8 ≤ 6 := by rw [ev8]; exact hi.2.1.1.2.2
        have av8 : v8 = M 1 6 := ev8
        refine g_ic_le (pc' := 37) (tgt := 39) hc rv8 dX9_mix_34 rfl rfl (fun c9 => ?_) (fun c9 => ?_)
        · refine g_aload_n (pc' := 40) 0 dX9_mix_39 rfl rfl ?_
          refine g_getR (pc' := 43) dX9_mix_40 rfl f_X9_53 rfl rfl ?_
          refine g_aload_n (pc' := 44) 0 dX9_mix_43 rfl rfl ?_
          refine g_getR (pc' := 47) dX9_mix_44 rfl f_X9_12 rfl rfl ?_
          refine g_iload_n (pc' := 48) 1 dX9_mix_47 rfl rfl ?_
          refine g_iload_n (pc' := 49) 2 dX9_mix_48 rfl rfl ?_
          refine g_callVi (pc' := 52) (As := [vr X 1, vi a, vi b]) (b := 84) (S := []) dX9_mix_49 rfl m_X9_256 w_X1_leastPrice (c_X1_leastPrice_x X M hi a ha b hb (by omega) (by omega) hwk) rfl ⟨_, _, _, rfl, rfl, rfl⟩ (by decide) (by decide) rfl (Nat.le_of_ble_eq_true rfl) (fun z11 M12 q10 => ?_)
          obtain ⟨iM12, fM120, pM12⟩ := q10
          have fM12 : Fr (fun c => (84 ≤ c ∧ c ≤ 90) ∨ c = 0 ∨ c = 96) M M12 := Fr.tr Fr.rf fM120 fi_24
          have q2_5_M12 : id (M12 2 5 = M 2 5) := (congrFun (fM120 2 (by first | decide | omega | (dsimp only; omega))) 5)
          have q1_2_M12 : id (M12 1 2 = M 1 2) := (congrFun (fM120 1 (by first | decide | omega | (dsimp only; omega))) 2)
          have q1_4_M12 : id (M12 1 4 = M 1 4) := (congrFun (fM120 1 (by first | decide | omega | (dsimp only; omega))) 4)
          have q1_6_M12 : id (M12 1 6 = M 1 6) := (congrFun (fM120 1 (by first | decide | omega | (dsimp only; omega))) 6)
          have q11_5_M12 : id (M12 11 5 = M 11 5) := (congrFun (fM120 11 (by first | decide | omega | (dsimp only; omega))) 5)
          have q10_2_M12 : id (M12 10 2 = M 10 2) := (congrFun (fM120 10 (by first | decide | omega | (dsimp only; omega))) 2)
          have q10_4_M12 : id (M12 10 4 = M 10 4) := (congrFun (fM120 10 (by first | decide | omega | (dsimp only; omega))) 4)
          have q10_6_M12 : id (M12 10 6 = M 10 6) := (congrFun (fM120 10 (by first | decide | omega | (dsimp only; omega))) 6)
          have q20_5_M12 : id (M12 20 5 = M 20 5) := (congrFun (fM120 20 (by first | decide | omega | (dsimp only; omega))) 5)
          have q19_2_M12 : id (M12 19 2 = M 19 2) := (congrFun (fM120 19 (by first | decide | omega | (dsimp only; omega))) 2)
          have q19_4_M12 : id (M12 19 4 = M 19 4) := (congrFun (fM120 19 (by first | decide | omega | (dsimp only; omega))) 4)
          have q19_6_M12 : id (M12 19 6 = M 19 6) := (congrFun (fM120 19 (by first | decide | omega | (dsimp only; omega))) 6)
          have q29_0_M12 : id (M12 29 0 = M 29 0) := (congrFun (fM120 29 (by first | decide | omega | (dsimp only; omega))) 0)
          have q29_1_M12 : id (M12 29 1 = M 29 1) := (congrFun (fM120 29 (by first | decide | omega | (dsimp only; omega))) 1)
          have q31_1_M12 : id (M12 31 1 = M 31 1) := (congrFun (fM120 31 (by first | decide | omega | (dsimp only; omega))) 1)
          have bz11 := pM12.1
          refine g_istore (pc' := 54) (L' := [(4, vi z11), (0, vr X 0), (1, vi a), (2, vi b), (3, vi c)]) dX9_mix_52 rfl (by decide) rfl ?_
          refine g_iload_n (pc' := 55) 4 dX9_mix_54 rfl rfl ?_
          refine g_if_eq (pc' := 58) (tgt := 64) hc dX9_mix_55 rfl rfl (fun c13 => ?_) (fun c13 => ?_)
          · refine g_iload (pc' := 66) 0 dX9_mix_64 rfl rfl ?_
            refine g_goto (tgt := 80) dX9_mix_66 rfl ?_
            refine g_ireturn dX9_mix_80 ?_
            exact ⟨iM12, fM12, q2_5_M12, q1_2_M12, q1_4_M12, q1_6_M12, q11_5_M12, q10_2_M12, q10_4_M12, q10_6_M12, q20_5_M12, q19_2_M12, q19_4_M12, q19_6_M12, q29_0_M12, q29_1_M12, q31_1_M12, mixQ.price (by omega) pM12.2 (by omega) (fun v e => by rw [e]; exact (lsF_ls _ 0 hwk a (a * b)).1)⟩
          · refine g_iload (pc' := 60) 0 dX9_mix_58 rfl rfl ?_
            refine g_iconst (pc' := 61) dX9_mix_60 rfl ?_
            refine g_ic_ne (pc' := 64) (tgt := 69) ⟨by omega, by omega⟩ (by decide) dX9_mix_61 rfl rfl (fun c14 => ?_) (fun c14 => ?_)
            · refine g_aload_n (pc' := 70) 1 dX9_mix_69 rfl rfl ?_
              refine g_getR (pc' := 73) dX9_mix_70 rfl f_X9_53 rfl rfl ?_
              refine g_getR (pc' := 76) dX9_mix_73 rfl f_X9_260 rfl rfl ?_
              refine g_iload_n (pc' := 77) 4 dX9_mix_76 rfl rfl ?_
              refine g_iconst (pc' := 78) dX9_mix_77 rfl ?_
              refine g_isub (pc' := 79) dX9_mix_78 rfl ?_
              refine g_iald (pc' := 80) dX9_mix_79 rfl rfl (by omega) (by omega) (fun v15 ev15 rv15 => ?_)
              refine g_ireturn dX9_mix_80 ?_
              exact ⟨iM12, fM12, q2_5_M12, q1_2_M12, q1_4_M12, q1_6_M12, q11_5_M12, q10_2_M12, q10_4_M12, q10_6_M12, q20_5_M12, q19_2_M12, q19_4_M12, q19_6_M12, q29_0_M12, q29_1_M12, q31_1_M12, mixQ.row (by omega) pM12.2 (by omega) (by omega) ev15⟩
            · refine g_iload (pc' := 66) 0 dX9_mix_64 rfl rfl ?_
              refine g_goto (tgt := 80) dX9_mix_66 rfl ?_
              refine g_ireturn dX9_mix_80 ?_
              exact ⟨iM12, fM12, q2_5_M12, q1_2_M12, q1_4_M12, q1_6_M12, q11_5_M12, q10_2_M12, q10_4_M12, q10_6_M12, q20_5_M12, q19_2_M12, q19_4_M12, q19_6_M12, q29_0_M12, q29_1_M12, q31_1_M12, mixQ.price (by omega) pM12.2 (by omega) (fun v e => by rw [e]; exact (lsF_ls _ 0 hwk a (a * b)).1)⟩
        · refine g_iconst (pc' := 38) dX9_mix_37 rfl ?_
          refine g_ireturn dX9_mix_38 ?_
          exact ⟨hi, Fr.rf, rfl, rfl, rfl, rfl, rfl, rfl, rfl, rfl, rfl, rfl, rfl, rfl, rfl, rfl, rfl, mixQ.no (by omega)⟩
    · replace q4 := q4.resolve_left (fun h => absurd (c6.symm.trans h.1) (by decide))
      refine g_iconst (pc' := 21) dX9_mix_20 rfl ?_
      refine g_ireturn dX9_mix_21 ?_
      exact ⟨hi, Fr.rf, rfl, rfl, rfl, rfl, rfl, rfl, rfl, rfl, rfl, rfl, rfl, rfl, rfl, rfl, rfl, mixQ.no (by omega)⟩
