set_option maxHeartbeats 4000000 in
set_option maxRecDepth 100000 in
theorem j_X2_readPlain_y_150 (X : Cx) (M : Mm) (hi : IC M) (b : Int) (hb : inI b) (K W : Nat → Int) (m i : Nat) (hts : TS M K W m) (hat : M 31 7 = (i : Int)) (him : i ≤ m) (lv : Int) (hlv : M 30 2 = lv) (hsl : 0 ≤ M 37 4 ∧ M 37 4 ≤ (i : Int)) (hb8 : 0 ≤ b ∧ b ≤ 8) (hrec : ∀ (M : Mm) (_ : IC M) (i : Nat) (lv : Int), TS M K W m → M 31 7 = (i : Int) → i ≤ m → M 30 2 = lv → (0 ≤ M 37 4 ∧ M 37 4 ≤ (i : Int)) → b < 8 → Con X (16 + 3 * (8 - (b + 1)).toNat) yX2_readTest cX2_readTest 5 (some .boolean) [vr X 30, vi (b + 1)] M (Qi (fun r M1 => IC M1 ∧ Fr (fun c => c = 30 ∨ c = 31 ∨ c = 37 ∨ c = 39 ∨ c = 40) M M1 ∧ M1 31 1 = M 31 1 ∧ M1 37 1 = M 37 1 ∧ ((r = 0 ∨ r = 1) ∧ ∃ (j : Nat) (lv1 : Int), M1 31 7 = (j : Int) ∧ M1 30 2 = lv1 ∧ i ≤ j ∧ j ≤ m ∧ TY K W 1 (b + 1) M M1 i lv r j lv1)))) (tn : Int) (re : Int) (M1 : Mm) (ic1 : IC M1) (fr1 : Fr (fun c => c = 30 ∨ c = 31 ∨ c = 37 ∨ c = 39 ∨ c = 40) M M1) (q31_1 : id (M1 31 1 = M 31 1)) (q37_1 : id (M1 37 1 = M 37 1)) (h2 : tn = 0 ∨ tn = 1) (h3 : re = 0 ∨ re = 1) (jx : Nat) (lx : Int) (at1 : M1 31 7 = (jx : Int)) (lv1 : M1 30 2 = lx) (ij : i ≤ jx ∧ jx ≤ m) (ts1 : TS M1 K W m) (rt0 : re = 0 → RTb K W 3 b i lv jx) (rt1 : re = 1 → ((M 37 4 ≤ M1 37 4 ∧ M1 37 4 - M 37 4 + tn ≤ (jx : Int) - i) ∧ CDS M M1 ∧ (lv < lx ∧ lx ≤ 50)) ∧ RTmQ (fun g => ∃ f : Mng, g = nf tn f ∧ MC (M1 39) (M1 40) (M 37 4).toNat (M1 37 4).toNat (lx - lv) f ∧ T01 f) K W 3 b i lv jx lx) : G X (14 + 3 * (8 - b).toNat) RX2 cX2_readPlain 5 (some .boolean) (Qi (fun r M1 => IC M1 ∧ Fr (fun c => c = 30 ∨ c = 31 ∨ c = 37 ∨ c = 39 ∨ c = 40) M M1 ∧ M1 31 1 = M 31 1 ∧ M1 37 1 = M 37 1 ∧ ((r = 0 ∨ r = 1) ∧ ∃ (j : Nat) (lv1 : Int), M1 31 7 = (j : Int) ∧ M1 30 2 = lv1 ∧ i ≤ j ∧ j ≤ m ∧ TY K W 3 b M M1 i lv r j lv1))) 150 [(2, vi tn), (3, vi re), (0, vr X 30), (1, vi b)] [] M1 := by
  have hm4 := hts.m4
  have hmK : ∀ q : Nat, q ≤ m → K q ≠ 0 → q < m := fun q h1 h2 => hts.lt h1 h2
  have hmj := hmK jx ij.2
  rcases (show re = 0 ∨ re = 1 by omega) with rfl | rfl
  · skip
    refine g_iload_n (pc' := 151) 0 dX2_readPlain_150 rfl rfl ?_
    refine g_if_eq (pc' := 154) (tgt := 165) ⟨by omega, by omega⟩ dX2_readPlain_151 rfl rfl (fun c1 => ?_) (fun c1 => ?_)
    · refine g_iload_n (pc' := 166) 1 dX2_readPlain_165 rfl rfl ?_
      refine g_zreturn dX2_readPlain_166 (by omega) ?_
      exact ⟨ic1, fr1, q31_1, q37_1, by omega, jx, lx, by omega, by omega, by omega, by omega, TY.n (by omega) (rt0 rfl)⟩
    · refine g_aload_n (pc' := 155) 2 dX2_readPlain_154 rfl rfl ?_
      refine g_getR (pc' := 158) dX2_readPlain_155 rfl f_X2_21 rfl rfl ?_
      refine g_bipush (pc' := 160) (v := 13) dX2_readPlain_158 rfl (by decide) ?_
      refine g_iconst (pc' := 161) dX2_readPlain_160 rfl ?_
      refine g_callVi (pc' := 164) (As := [vi 13, vi 0]) (b := 37) (S := []) dX2_readPlain_161 rfl m_X2_129 w_X4_write (c_X4_write_y X M1 ic1 13 (by decide) 0 (by decide)) rfl ⟨_, _, _, rfl, rfl, rfl⟩ (by omega) (by decide) rfl (Nat.le_of_ble_eq_true rfl) (fun z3 M4 q2 => ?_)
      obtain ⟨iM4, fM40, eM4_37_1, pM4⟩ := q2
      have fM4 : Fr (fun c => c = 30 ∨ c = 31 ∨ c = 37 ∨ c = 39 ∨ c = 40) M M4 := Fr.tr fr1 fM40 fi_69
      have q31_1_M4 : id (M4 31 1 = M 31 1) := (congrFun (fM40 31 (by first | decide | omega | (dsimp only; omega))) 1).trans q31_1
      have q37_1_M4 : id (M4 37 1 = M 37 1) := eM4_37_1.trans q37_1
      have wM4_30_2 : M4 30 2 = M1 30 2 := (congrFun (fM40 30 (by first | decide | omega | (dsimp only; omega))) 2)
      have wM4_31_7 : M4 31 7 = M1 31 7 := (congrFun (fM40 31 (by first | decide | omega | (dsimp only; omega))) 7)
      clear eM4_37_1
      have tsM4 : TS M4 K W m := TS.fr ts1 fM40 (fun c h1 h2 => by first | omega | (dsimp only; omega))
      refine g_pop (pc' := 165) dX2_readPlain_164 rfl rfl ?_
      refine g_iload_n (pc' := 166) 1 dX2_readPlain_165 rfl rfl ?_
      refine g_zreturn dX2_readPlain_166 (by omega) ?_
      exact ⟨iM4, fM4, q31_1_M4, q37_1_M4, by omega, jx, lx, by omega, by omega, by omega, by omega, TY.n (by omega) (rt0 rfl)⟩
  · obtain ⟨⟨rl, rc, rv⟩, rq⟩ := rt1 rfl
    refine g_iload_n (pc' := 151) 0 dX2_readPlain_150 rfl rfl ?_
    refine g_if_eq (pc' := 154) (tgt := 165) ⟨by omega, by omega⟩ dX2_readPlain_151 rfl rfl (fun c5 => ?_) (fun c5 => ?_)
    · refine g_iload_n (pc' := 166) 1 dX2_readPlain_165 rfl rfl ?_
      refine g_zreturn dX2_readPlain_166 (by omega) ?_
      exact ⟨ic1, fr1, q31_1, q37_1, by omega, jx, lx, by omega, by omega, by omega, by omega, ⟨fun z => absurd z (by decide), fun _ => ⟨NT3 _ _ _, by omega, rc, by omega, rq.mp (fun g q => by
          obtain ⟨f, q1, q2, q3⟩ := q
          rw [q1]
          exact MC.n0 q2 q3 rfl rfl (by omega) (by omega))⟩⟩⟩
    · refine g_aload_n (pc' := 155) 2 dX2_readPlain_154 rfl rfl ?_
      refine g_getR (pc' := 158) dX2_readPlain_155 rfl f_X2_21 rfl rfl ?_
      refine g_bipush (pc' := 160) (v := 13) dX2_readPlain_158 rfl (by decide) ?_
      refine g_iconst (pc' := 161) dX2_readPlain_160 rfl ?_
      refine g_callVi (pc' := 164) (As := [vi 13, vi 0]) (b := 37) (S := []) dX2_readPlain_161 rfl m_X2_129 w_X4_write (c_X4_write_y X M1 ic1 13 (by decide) 0 (by decide)) rfl ⟨_, _, _, rfl, rfl, rfl⟩ (by omega) (by decide) rfl (Nat.le_of_ble_eq_true rfl) (fun z7 M8 q6 => ?_)
      obtain ⟨iM8, fM80, eM8_37_1, pM8⟩ := q6
      have fM8 : Fr (fun c => c = 30 ∨ c = 31 ∨ c = 37 ∨ c = 39 ∨ c = 40) M M8 := Fr.tr fr1 fM80 fi_69
      have q31_1_M8 : id (M8 31 1 = M 31 1) := (congrFun (fM80 31 (by first | decide | omega | (dsimp only; omega))) 1).trans q31_1
      have q37_1_M8 : id (M8 37 1 = M 37 1) := eM8_37_1.trans q37_1
      have wM8_30_2 : M8 30 2 = M1 30 2 := (congrFun (fM80 30 (by first | decide | omega | (dsimp only; omega))) 2)
      have wM8_31_7 : M8 31 7 = M1 31 7 := (congrFun (fM80 31 (by first | decide | omega | (dsimp only; omega))) 7)
      clear eM8_37_1
      have tsM8 : TS M8 K W m := TS.fr ts1 fM80 (fun c h1 h2 => by first | omega | (dsimp only; omega))
      obtain ⟨wrM8, wzM8, w9M8, w0M8⟩ := pM8.2 (by omega)
      clear pM8
      have k39M8 : M8 39 = ms (M1 39) (M1 37 4).toNat 13 := by rw [w9M8]
      have k40M8 : M8 40 = ms (M1 40) (M1 37 4).toNat 0 := by rw [w0M8]
      refine g_pop (pc' := 165) dX2_readPlain_164 rfl rfl ?_
      refine g_iload_n (pc' := 166) 1 dX2_readPlain_165 rfl rfl ?_
      refine g_zreturn dX2_readPlain_166 (by omega) ?_
      have zc9 := k39M8
      have zc0 := k40M8
      exact ⟨iM8, fM8, q31_1_M8, q37_1_M8, by omega, jx, lx, by omega, by omega, by omega, by omega, ⟨fun z => absurd z (by decide), fun _ => ⟨NT3 _ _ _, by omega, CDS.wr rc hsl.1 (by omega) zc9 zc0 (by rw [show M1 37 4 = M1 37 4 by omega]), by omega, rq.mp (fun g q => by
          obtain ⟨f, q1, q2, q3⟩ := q
          rw [q1]
          exact MC.nt q2 q3 zc9 zc0 (by rw [show M1 37 4 = M1 37 4 by omega]) (by omega) (by omega))⟩⟩⟩
set_option maxHeartbeats 4000000 in
set_option maxRecDepth 100000 in
theorem j_X2_readPlain_y_120 (X : Cx) (M : Mm) (hi : IC M) (b : Int) (hb : inI b) (K W : Nat → Int) (m i : Nat) (hts : TS M K W m) (hat : M 31 7 = (i : Int)) (him : i ≤ m) (lv : Int) (hlv : M 30 2 = lv) (hsl : 0 ≤ M 37 4 ∧ M 37 4 ≤ (i : Int)) (hb8 : 0 ≤ b ∧ b ≤ 8) (hrec : ∀ (M : Mm) (_ : IC M) (i : Nat) (lv : Int), TS M K W m → M 31 7 = (i : Int) → i ≤ m → M 30 2 = lv → (0 ≤ M 37 4 ∧ M 37 4 ≤ (i : Int)) → b < 8 → Con X (16 + 3 * (8 - (b + 1)).toNat) yX2_readTest cX2_readTest 5 (some .boolean) [vr X 30, vi (b + 1)] M (Qi (fun r M1 => IC M1 ∧ Fr (fun c => c = 30 ∨ c = 31 ∨ c = 37 ∨ c = 39 ∨ c = 40) M M1 ∧ M1 31 1 = M 31 1 ∧ M1 37 1 = M 37 1 ∧ ((r = 0 ∨ r = 1) ∧ ∃ (j : Nat) (lv1 : Int), M1 31 7 = (j : Int) ∧ M1 30 2 = lv1 ∧ i ≤ j ∧ j ≤ m ∧ TY K W 1 (b + 1) M M1 i lv r j lv1)))) (tn : Int) (re : Int) (co : Int) (M1 : Mm) (ic1 : IC M1) (fr1 : Fr (fun c => c = 30 ∨ c = 31 ∨ c = 37 ∨ c = 39 ∨ c = 40) M M1) (q31_1 : id (M1 31 1 = M 31 1)) (q37_1 : id (M1 37 1 = M 37 1)) (h2 : tn = 0 ∨ tn = 1) (h3 : re = 0 ∨ re = 1) (h4 : 0 ≤ co ∧ co ≤ 12) (jx : Nat) (lx : Int) (at1 : M1 31 7 = (jx : Int)) (lv1 : M1 30 2 = lx) (ij : i ≤ jx ∧ jx ≤ m) (ts1 : TS M1 K W m) (hc0 : co = 0 → RTb K W 3 b i lv jx) (hc1 : co ≠ 0 → EXo (fun o : Int => (24 ≤ o ∧ o ≤ 26 ∧ o = co + 14) ∧ ((M 37 4 ≤ M1 37 4 ∧ M1 37 4 - M 37 4 + tn ≤ (jx : Int) - i - 1) ∧ CDS M M1 ∧ (lv < lx ∧ lx ≤ 50)) ∧ PLoQ (MC (M1 39) (M1 40) (M 37 4).toNat (M1 37 4).toNat (lx - lv)) K W b o i lv tn jx lx)) : G X (14 + 3 * (8 - b).toNat) RX2 cX2_readPlain 5 (some .boolean) (Qi (fun r M1 => IC M1 ∧ Fr (fun c => c = 30 ∨ c = 31 ∨ c = 37 ∨ c = 39 ∨ c = 40) M M1 ∧ M1 31 1 = M 31 1 ∧ M1 37 1 = M 37 1 ∧ ((r = 0 ∨ r = 1) ∧ ∃ (j : Nat) (lv1 : Int), M1 31 7 = (j : Int) ∧ M1 30 2 = lv1 ∧ i ≤ j ∧ j ≤ m ∧ TY K W 3 b M M1 i lv r j lv1))) 120 [(2, vi tn), (3, vi re), (4, vi co), (0, vr X 30), (1, vi b)] [] M1 := by
  have hm4 := hts.m4
  have hmK : ∀ q : Nat, q ≤ m → K q ≠ 0 → q < m := fun q h1 h2 => hts.lt h1 h2
  have hmj := hmK jx ij.2
  refine g_iload (pc' := 122) 2 dX2_readPlain_120 rfl rfl ?_
  refine g_if_eq (pc' := 125) (tgt := 137) ⟨by omega, by omega⟩ dX2_readPlain_122 rfl rfl (fun c1 => ?_) (fun c1 => ?_)
  · refine g_iconst (pc' := 138) dX2_readPlain_137 rfl ?_
    refine g_istore_n (pc' := 139) (i := 3) (L' := [(3, vi 0), (2, vi tn), (4, vi co), (0, vr X 30), (1, vi b)]) dX2_readPlain_138 rfl rfl (by decide) rfl ?_
    refine g_aload_n (pc' := 140) 3 dX2_readPlain_139 rfl rfl ?_
    refine g_getR (pc' := 143) dX2_readPlain_140 rfl f_X2_21 rfl rfl ?_
    refine g_iload (pc' := 145) 2 dX2_readPlain_143 rfl rfl ?_
    refine g_iconst (pc' := 146) dX2_readPlain_145 rfl ?_
    refine g_callVi (pc' := 149) (As := [vi co, vi 0]) (b := 37) (S := []) dX2_readPlain_146 rfl m_X2_129 w_X4_write (c_X4_write_y X M1 ic1 co ⟨by omega, by omega⟩ 0 (by decide)) rfl ⟨_, _, _, rfl, rfl, rfl⟩ (by omega) (by decide) rfl (Nat.le_of_ble_eq_true rfl) (fun z3 M4 q2 => ?_)
    obtain ⟨iM4, fM40, eM4_37_1, pM4⟩ := q2
    have fM4 : Fr (fun c => c = 30 ∨ c = 31 ∨ c = 37 ∨ c = 39 ∨ c = 40) M M4 := Fr.tr fr1 fM40 fi_69
    have q31_1_M4 : id (M4 31 1 = M 31 1) := (congrFun (fM40 31 (by first | decide | omega | (dsimp only; omega))) 1).trans q31_1
    have q37_1_M4 : id (M4 37 1 = M 37 1) := eM4_37_1.trans q37_1
    have wM4_30_2 : M4 30 2 = M1 30 2 := (congrFun (fM40 30 (by first | decide | omega | (dsimp only; omega))) 2)
    have wM4_31_7 : M4 31 7 = M1 31 7 := (congrFun (fM40 31 (by first | decide | omega | (dsimp only; omega))) 7)
    clear eM4_37_1
    have tsM4 : TS M4 K W m := TS.fr ts1 fM40 (fun c h1 h2 => by first | omega | (dsimp only; omega))
    refine g_pop (pc' := 150) dX2_readPlain_149 rfl rfl ?_
    refine g_sub [1, 0, 3, 4] rfl ?_
    exact j_X2_readPlain_y_150 X M hi b hb K W m i hts hat him lv hlv hsl hb8 hrec tn 0 M4 iM4 fM4 q31_1_M4 q37_1_M4 (by omega) (by omega) jx lx (by omega) (by omega) (by omega) tsM4 (fun _ => (hc0 (by omega))) (fun z => absurd z (by decide))
  · obtain ⟨oo, ho⟩ := hc1 (by omega)
    have ho1 := ho.1
    have ho2 := ho.2.1.1
    have ho3 := ho.2.1.2.2
    refine g_aload_n (pc' := 126) 3 dX2_readPlain_125 rfl rfl ?_
    refine g_iload_n (pc' := 127) 4 dX2_readPlain_126 rfl rfl ?_
    refine g_callVi (pc' := 130) (As := [vi b]) (b := 30) (S := []) dX2_readPlain_127 rfl m_X2_97 w_X2_readSum (r_readSum_y X K W m _ b (by omega) (by omega) rfl M1 ic1 jx lx ts1 at1 (by omega) lv1 (by omega)) rfl ⟨_, _, _, rfl, rfl, rfl⟩ (by omega) (by decide) rfl (Nat.le_of_ble_eq_true rfl) (fun z6 M7 q5 => ?_)
    obtain ⟨iM7, fM70, eM7_31_1, eM7_37_1, pM7⟩ := q5
    have fM7 : Fr (fun c => c = 30 ∨ c = 31 ∨ c = 37 ∨ c = 39 ∨ c = 40) M M7 := Fr.tr fr1 fM70 (fun _ z => z)
    have q31_1_M7 : id (M7 31 1 = M 31 1) := eM7_31_1.trans q31_1
    have q37_1_M7 : id (M7 37 1 = M 37 1) := eM7_37_1.trans q37_1
    clear eM7_31_1 eM7_37_1
    have tsM7 : TS M7 K W m := TS.fr ts1 fM70 (fun c h1 h2 => by first | omega | (dsimp only; omega))
    obtain ⟨pzM7, jM7, lvM7, paM7, plM7, piM7, pmM7, yM7⟩ := pM7
    have gM7 := yM7.rs
    have ylM7 : (M1 37 4 ≤ M7 37 4 ∧ M7 37 4 - M1 37 4 ≤ (jM7 : Int) - jx) ∧ (z6 = 1 → lx < lvM7 ∧ lvM7 ≤ 50) := ⟨yM7.2.1, fun z => (yM7.2.2 z).2.2.1⟩
    refine g_if_eq (pc' := 133) (tgt := 137) ⟨by omega, by omega⟩ dX2_readPlain_130 rfl rfl (fun c8 => ?_) (fun c8 => ?_)
    · refine g_iconst (pc' := 138) dX2_readPlain_137 rfl ?_
      refine g_istore_n (pc' := 139) (i := 3) (L' := [(3, vi 0), (2, vi tn), (4, vi co), (0, vr X 30), (1, vi b)]) dX2_readPlain_138 rfl rfl (by decide) rfl ?_
      refine g_aload_n (pc' := 140) 3 dX2_readPlain_139 rfl rfl ?_
      refine g_getR (pc' := 143) dX2_readPlain_140 rfl f_X2_21 rfl rfl ?_
      refine g_iload (pc' := 145) 2 dX2_readPlain_143 rfl rfl ?_
      refine g_iconst (pc' := 146) dX2_readPlain_145 rfl ?_
      refine g_callVi (pc' := 149) (As := [vi co, vi 0]) (b := 37) (S := []) dX2_readPlain_146 rfl m_X2_129 w_X4_write (c_X4_write_y X M7 iM7 co ⟨by omega, by omega⟩ 0 (by decide)) rfl ⟨_, _, _, rfl, rfl, rfl⟩ (by omega) (by decide) rfl (Nat.le_of_ble_eq_true rfl) (fun z10 M11 q9 => ?_)
      obtain ⟨iM11, fM110, eM11_37_1, pM11⟩ := q9
      have fM11 : Fr (fun c => c = 30 ∨ c = 31 ∨ c = 37 ∨ c = 39 ∨ c = 40) M M11 := Fr.tr fM7 fM110 fi_69
      have q31_1_M11 : id (M11 31 1 = M 31 1) := (congrFun (fM110 31 (by first | decide | omega | (dsimp only; omega))) 1).trans q31_1_M7
      have q37_1_M11 : id (M11 37 1 = M 37 1) := eM11_37_1.trans q37_1_M7
      have wM11_30_2 : M11 30 2 = M7 30 2 := (congrFun (fM110 30 (by first | decide | omega | (dsimp only; omega))) 2)
      have wM11_31_7 : M11 31 7 = M7 31 7 := (congrFun (fM110 31 (by first | decide | omega | (dsimp only; omega))) 7)
      clear eM11_37_1
      have tsM11 : TS M11 K W m := TS.fr tsM7 fM110 (fun c h1 h2 => by first | omega | (dsimp only; omega))
      refine g_pop (pc' := 150) dX2_readPlain_149 rfl rfl ?_
      refine g_sub [1, 0, 3, 4] rfl ?_
      exact j_X2_readPlain_y_150 X M hi b hb K W m i hts hat him lv hlv hsl hb8 hrec tn 0 M11 iM11 fM11 q31_1_M11 q37_1_M11 (by omega) (by omega) jM7 lvM7 (by omega) (by omega) (by omega) tsM11 (fun _ => (ho.2.2.q.no ⟨ho.1.1, ho.1.2.1⟩ (gM7.2 (by omega)))) (fun z => absurd z (by decide))
    · have ya := ylM7
      have yb := ya.2 (by omega)
      refine g_iconst (pc' := 134) dX2_readPlain_133 rfl ?_
      refine g_goto (tgt := 138) dX2_readPlain_134 rfl ?_
      refine g_istore_n (pc' := 139) (i := 3) (L' := [(3, vi 1), (2, vi tn), (4, vi co), (0, vr X 30), (1, vi b)]) dX2_readPlain_138 rfl rfl (by decide) rfl ?_
      refine g_aload_n (pc' := 140) 3 dX2_readPlain_139 rfl rfl ?_
      refine g_getR (pc' := 143) dX2_readPlain_140 rfl f_X2_21 rfl rfl ?_
      refine g_iload (pc' := 145) 2 dX2_readPlain_143 rfl rfl ?_
      refine g_iconst (pc' := 146) dX2_readPlain_145 rfl ?_
      refine g_callVi (pc' := 149) (As := [vi co, vi 0]) (b := 37) (S := []) dX2_readPlain_146 rfl m_X2_129 w_X4_write (c_X4_write_y X M7 iM7 co ⟨by omega, by omega⟩ 0 (by decide)) rfl ⟨_, _, _, rfl, rfl, rfl⟩ (by omega) (by decide) rfl (Nat.le_of_ble_eq_true rfl) (fun z13 M14 q12 => ?_)
      obtain ⟨iM14, fM140, eM14_37_1, pM14⟩ := q12
      have fM14 : Fr (fun c => c = 30 ∨ c = 31 ∨ c = 37 ∨ c = 39 ∨ c = 40) M M14 := Fr.tr fM7 fM140 fi_69
      have q31_1_M14 : id (M14 31 1 = M 31 1) := (congrFun (fM140 31 (by first | decide | omega | (dsimp only; omega))) 1).trans q31_1_M7
      have q37_1_M14 : id (M14 37 1 = M 37 1) := eM14_37_1.trans q37_1_M7
      have wM14_30_2 : M14 30 2 = M7 30 2 := (congrFun (fM140 30 (by first | decide | omega | (dsimp only; omega))) 2)
      have wM14_31_7 : M14 31 7 = M7 31 7 := (congrFun (fM140 31 (by first | decide | omega | (dsimp only; omega))) 7)
      clear eM14_37_1
      have tsM14 : TS M14 K W m := TS.fr tsM7 fM140 (fun c h1 h2 => by first | omega | (dsimp only; omega))
      obtain ⟨wrM14, wzM14, w9M14, w0M14⟩ := pM14.2 (by omega)
      clear pM14
      have k39M14 : M14 39 = ms (M7 39) (M7 37 4).toNat co := by rw [w9M14]
      have k40M14 : M14 40 = ms (M7 40) (M7 37 4).toNat 0 := by rw [w0M14]
      refine g_pop (pc' := 150) dX2_readPlain_149 rfl rfl ?_
      refine g_sub [1, 0, 3, 4] rfl ?_
      exact j_X2_readPlain_y_150 X M hi b hb K W m i hts hat him lv hlv hsl hb8 hrec tn 1 M14 iM14 fM14 q31_1_M14 q37_1_M14 (by omega) (by omega) jM7 lvM7 (by omega) (by omega) (by omega) tsM14 (fun z => absurd z (by decide)) (fun _ => ⟨⟨by omega, ho.2.1.2.1.tr (CDS.wr (yM7.2.2 (by omega)).2.1 (by omega) (by omega) k39M14 k40M14 (by rw [show M7 37 4 = M7 37 4 by omega])), by omega⟩, ho.2.2.nx ⟨ho.1.1, ho.1.2.1⟩ (yM7.2.2 (by omega)).1 (yM7.2.2 (by omega)).2.2.2 (fun f k q1 q2 => ⟨_, rfl, by rw [ho.1.2.2]; exact MC.b2 q1 q2 (yM7.2.2 (by omega)).2.1 (by omega) k39M14 k40M14 (by rw [show M7 37 4 = M7 37 4 by omega]) (by omega) (by omega) (by omega), T01.bin ho.1.1 f k⟩)⟩)
set_option maxHeartbeats 4000000 in
set_option maxRecDepth 100000 in
theorem j_X2_readPlain_y_39 (X : Cx) (M : Mm) (hi : IC M) (b : Int) (hb : inI b) (K W : Nat → Int) (m i : Nat) (hts : TS M K W m) (hat : M 31 7 = (i : Int)) (him : i ≤ m) (lv : Int) (hlv : M 30 2 = lv) (hsl : 0 ≤ M 37 4 ∧ M 37 4 ≤ (i : Int)) (hb8 : 0 ≤ b ∧ b ≤ 8) (hrec : ∀ (M : Mm) (_ : IC M) (i : Nat) (lv : Int), TS M K W m → M 31 7 = (i : Int) → i ≤ m → M 30 2 = lv → (0 ≤ M 37 4 ∧ M 37 4 ≤ (i : Int)) → b < 8 → Con X (16 + 3 * (8 - (b + 1)).toNat) yX2_readTest cX2_readTest 5 (some .boolean) [vr X 30, vi (b + 1)] M (Qi (fun r M1 => IC M1 ∧ Fr (fun c => c = 30 ∨ c = 31 ∨ c = 37 ∨ c = 39 ∨ c = 40) M M1 ∧ M1 31 1 = M 31 1 ∧ M1 37 1 = M 37 1 ∧ ((r = 0 ∨ r = 1) ∧ ∃ (j : Nat) (lv1 : Int), M1 31 7 = (j : Int) ∧ M1 30 2 = lv1 ∧ i ≤ j ∧ j ≤ m ∧ TY K W 1 (b + 1) M M1 i lv r j lv1)))) (tn : Int) (M1 : Mm) (ic1 : IC M1) (fr1 : Fr (fun c => c = 30 ∨ c = 31 ∨ c = 37 ∨ c = 39 ∨ c = 40) M M1) (q31_1 : id (M1 31 1 = M 31 1)) (q37_1 : id (M1 37 1 = M 37 1)) (h2 : tn = 0 ∨ tn = 1) (jx : Nat) (at1 : M1 31 7 = (jx : Int)) (ij : i ≤ jx ∧ jx ≤ m) (ts1 : TS M1 K W m) (lv1 : M1 30 2 = lv) (hn : PLn K W i jx tn) (nw : ¬ isWd K W jx 14836) (nc : M1 37 4 = M 37 4) (n9 : M1 39 = M 39) (n4 : M1 40 = M 40) (tj : tn ≤ (jx : Int) - i) : G X (14 + 3 * (8 - b).toNat) RX2 cX2_readPlain 5 (some .boolean) (Qi (fun r M1 => IC M1 ∧ Fr (fun c => c = 30 ∨ c = 31 ∨ c = 37 ∨ c = 39 ∨ c = 40) M M1 ∧ M1 31 1 = M 31 1 ∧ M1 37 1 = M 37 1 ∧ ((r = 0 ∨ r = 1) ∧ ∃ (j : Nat) (lv1 : Int), M1 31 7 = (j : Int) ∧ M1 30 2 = lv1 ∧ i ≤ j ∧ j ≤ m ∧ TY K W 3 b M M1 i lv r j lv1))) 39 [(2, vi tn), (0, vr X 30), (1, vi b)] [] M1 := by
  have hm4 := hts.m4
  have hmK : ∀ q : Nat, q ≤ m → K q ≠ 0 → q < m := fun q h1 h2 => hts.lt h1 h2
  have hmj := hmK jx ij.2
  refine g_aload_n (pc' := 40) 1 dX2_readPlain_39 rfl rfl ?_
  refine g_getR (pc' := 43) dX2_readPlain_40 rfl f_X2_12 rfl rfl ?_
  refine g_bipush (pc' := 45) (v := 40) dX2_readPlain_43 rfl (by decide) ?_
  refine g_callVip (pc' := 48) (As := [vi 40]) (b := 31) (S := []) dX2_readPlain_45 rfl m_X2_143 w_X8_isSign (c_X8_isSign_x X M1 ic1 40 (by decide) K W m jx ts1 at1 (by omega)) rfl ⟨_, _, _, rfl, rfl, rfl⟩ (by omega) (by decide) rfl (Nat.le_of_ble_eq_true rfl) (fun z2 q1 => ?_)
  refine g_if_eq (pc' := 51) (tgt := 100) ⟨by omega, by omega⟩ dX2_readPlain_48 rfl rfl (fun c3 => ?_) (fun c3 => ?_)
  · replace q1 := q1.resolve_left (fun h => absurd (c3.symm.trans h.1) (by decide))
    refine g_aload_n (pc' := 101) 1 dX2_readPlain_100 rfl rfl ?_
    refine g_iload_n (pc' := 102) 2 dX2_readPlain_101 rfl rfl ?_
    refine g_callVi (pc' := 105) (As := [vi b]) (b := 30) (S := []) dX2_readPlain_102 rfl m_X2_97 w_X2_readSum (r_readSum_y X K W m _ b (by omega) (by omega) rfl M1 ic1 jx lv ts1 at1 (by omega) lv1 (by omega)) rfl ⟨_, _, _, rfl, rfl, rfl⟩ (by omega) (by decide) rfl (Nat.le_of_ble_eq_true rfl) (fun z5 M6 q4 => ?_)
    obtain ⟨iM6, fM60, eM6_31_1, eM6_37_1, pM6⟩ := q4
    have fM6 : Fr (fun c => c = 30 ∨ c = 31 ∨ c = 37 ∨ c = 39 ∨ c = 40) M M6 := Fr.tr fr1 fM60 (fun _ z => z)
    have q31_1_M6 : id (M6 31 1 = M 31 1) := eM6_31_1.trans q31_1
    have q37_1_M6 : id (M6 37 1 = M 37 1) := eM6_37_1.trans q37_1
    clear eM6_31_1 eM6_37_1
    have tsM6 : TS M6 K W m := TS.fr ts1 fM60 (fun c h1 h2 => by first | omega | (dsimp only; omega))
    obtain ⟨pzM6, jM6, lvM6, paM6, plM6, piM6, pmM6, yM6⟩ := pM6
    have gM6 := yM6.rs
    have ylM6 : (M1 37 4 ≤ M6 37 4 ∧ M6 37 4 - M1 37 4 ≤ (jM6 : Int) - jx) ∧ (z5 = 1 → lv < lvM6 ∧ lvM6 ≤ 50) := ⟨yM6.2.1, fun z => (yM6.2.2 z).2.2.1⟩
    refine g_istore_n (pc' := 106) (i := 3) (L' := [(3, vi z5), (2, vi tn), (0, vr X 30), (1, vi b)]) dX2_readPlain_105 rfl rfl (by decide) rfl ?_
    refine g_iload_n (pc' := 107) 0 dX2_readPlain_106 rfl rfl ?_
    refine g_if_eq (pc' := 110) (tgt := 117) ⟨by omega, by omega⟩ dX2_readPlain_107 rfl rfl (fun c7 => ?_) (fun c7 => ?_)
    · refine g_iconst (pc' := 118) dX2_readPlain_117 rfl ?_
      refine g_istore (pc' := 120) (L' := [(4, vi 0), (3, vi z5), (2, vi tn), (0, vr X 30), (1, vi b)]) dX2_readPlain_118 rfl (by decide) rfl ?_
      refine g_sub [2, 1, 0, 3, 4] rfl ?_
      exact j_X2_readPlain_y_120 X M hi b hb K W m i hts hat him lv hlv hsl hb8 hrec tn z5 0 M6 iM6 fM6 q31_1_M6 q37_1_M6 (by omega) (by omega) (by omega) jM6 lvM6 (by omega) (by omega) (by omega) tsM6 (fun _ => pl_s0 hn nw q1.2 (gM6.2 (by omega))) (fun z => absurd rfl z)
    · refine g_aload_n (pc' := 111) 2 dX2_readPlain_110 rfl rfl ?_
      refine g_callVi (pc' := 114) (As := []) (b := 30) (S := []) dX2_readPlain_111 rfl m_X2_146 w_X2_takeComparison (c_X2_takeComparison_y X M6 iM6 K W m jM6 tsM6 (by omega) (by omega) lvM6 (by omega) (by omega)) rfl ⟨_, _, _, rfl, rfl, rfl⟩ (by omega) (by decide) rfl (Nat.le_of_ble_eq_true rfl) (fun z9 M10 q8 => ?_)
      obtain ⟨iM10, fM100, eM10_31_1, eM10_37_1, pM10⟩ := q8
      have fM10 : Fr (fun c => c = 30 ∨ c = 31 ∨ c = 37 ∨ c = 39 ∨ c = 40) M M10 := Fr.tr fM6 fM100 fi_67
      have q31_1_M10 : id (M10 31 1 = M 31 1) := eM10_31_1.trans q31_1_M6
      have q37_1_M10 : id (M10 37 1 = M 37 1) := eM10_37_1.trans q37_1_M6
      have wM10_30_2 : M10 30 2 = M6 30 2 := (congrFun (fM100 30 (by first | decide | omega | (dsimp only; omega))) 2)
      have wM10_37_4 : M10 37 4 = M6 37 4 := (congrFun (fM100 37 (by first | decide | omega | (dsimp only; omega))) 4)
      clear eM10_31_1 eM10_37_1
      have tsM10 : TS M10 K W m := TS.fr tsM6 fM100 (fun c h1 h2 => by first | omega | (dsimp only; omega))
      have k39M10 : M10 39 = M6 39 := (fM100 39 (by decide))
      have k40M10 : M10 40 = M6 40 := (fM100 40 (by decide))
      refine g_goto (tgt := 118) dX2_readPlain_114 rfl ?_
      rcases (show z9 = 10 ∨ z9 = 11 ∨ z9 = 12 ∨ z9 = 0 by omega) with rfl | rfl | rfl | rfl
      · have ya := ylM6
        have ys := (gM6.1 (by omega)).2.1
        refine g_istore (pc' := 120) (L' := [(4, vi 10), (3, vi z5), (2, vi tn), (0, vr X 30), (1, vi b)]) dX2_readPlain_118 rfl (by decide) rfl ?_
        refine g_sub [2, 1, 0, 3, 4] rfl ?_
        exact j_X2_readPlain_y_120 X M hi b hb K W m i hts hat him lv hlv hsl hb8 hrec tn z5 10 M10 iM10 fM10 q31_1_M10 q37_1_M10 (by omega) (by omega) (by omega) (jM6 + 1) lvM6 (by omega) (by omega) (by omega) tsM10 (fun z => absurd z (by decide)) (fun _ => EXo.mk_ 24 ⟨⟨by decide, by decide, by decide⟩, ⟨by omega, (CDS.eq (M := M) (M1 := M1) (by omega) (rfl.trans n9) (rfl.trans n4)).tr ((yM6.2.2 (by omega)).2.1.tr (CDS.eq (by omega) k39M10 k40M10)), by omega⟩, ((ql_s1 hn nw q1.2 ((yM6.2.2 (by omega)).2.2.2.mp (Q1 := MC (M10 39) (M10 40) (M 37 4).toNat (M10 37 4).toNat (lvM6 - lv)) (fun f q => by rw [k39M10, k40M10, show M10 37 4 = M6 37 4 by omega]; rw [show M 37 4 = M1 37 4 by omega]; exact q))).op (yM6.2.2 (by omega)).1 (by omega))⟩)
      · have ya := ylM6
        have ys := (gM6.1 (by omega)).2.1
        refine g_istore (pc' := 120) (L' := [(4, vi 11), (3, vi z5), (2, vi tn), (0, vr X 30), (1, vi b)]) dX2_readPlain_118 rfl (by decide) rfl ?_
        refine g_sub [2, 1, 0, 3, 4] rfl ?_
        exact j_X2_readPlain_y_120 X M hi b hb K W m i hts hat him lv hlv hsl hb8 hrec tn z5 11 M10 iM10 fM10 q31_1_M10 q37_1_M10 (by omega) (by omega) (by omega) (jM6 + 1) lvM6 (by omega) (by omega) (by omega) tsM10 (fun z => absurd z (by decide)) (fun _ => EXo.mk_ 25 ⟨⟨by decide, by decide, by decide⟩, ⟨by omega, (CDS.eq (M := M) (M1 := M1) (by omega) (rfl.trans n9) (rfl.trans n4)).tr ((yM6.2.2 (by omega)).2.1.tr (CDS.eq (by omega) k39M10 k40M10)), by omega⟩, ((ql_s1 hn nw q1.2 ((yM6.2.2 (by omega)).2.2.2.mp (Q1 := MC (M10 39) (M10 40) (M 37 4).toNat (M10 37 4).toNat (lvM6 - lv)) (fun f q => by rw [k39M10, k40M10, show M10 37 4 = M6 37 4 by omega]; rw [show M 37 4 = M1 37 4 by omega]; exact q))).op (yM6.2.2 (by omega)).1 (by omega))⟩)
      · have ya := ylM6
        have ys := (gM6.1 (by omega)).2.1
        refine g_istore (pc' := 120) (L' := [(4, vi 12), (3, vi z5), (2, vi tn), (0, vr X 30), (1, vi b)]) dX2_readPlain_118 rfl (by decide) rfl ?_
        refine g_sub [2, 1, 0, 3, 4] rfl ?_
        exact j_X2_readPlain_y_120 X M hi b hb K W m i hts hat him lv hlv hsl hb8 hrec tn z5 12 M10 iM10 fM10 q31_1_M10 q37_1_M10 (by omega) (by omega) (by omega) (jM6 + 1) lvM6 (by omega) (by omega) (by omega) tsM10 (fun z => absurd z (by decide)) (fun _ => EXo.mk_ 26 ⟨⟨by decide, by decide, by decide⟩, ⟨by omega, (CDS.eq (M := M) (M1 := M1) (by omega) (rfl.trans n9) (rfl.trans n4)).tr ((yM6.2.2 (by omega)).2.1.tr (CDS.eq (by omega) k39M10 k40M10)), by omega⟩, ((ql_s1 hn nw q1.2 ((yM6.2.2 (by omega)).2.2.2.mp (Q1 := MC (M10 39) (M10 40) (M 37 4).toNat (M10 37 4).toNat (lvM6 - lv)) (fun f q => by rw [k39M10, k40M10, show M10 37 4 = M6 37 4 by omega]; rw [show M 37 4 = M1 37 4 by omega]; exact q))).op (yM6.2.2 (by omega)).1 (by omega))⟩)
      · have ya := ylM6
        refine g_istore (pc' := 120) (L' := [(4, vi 0), (3, vi z5), (2, vi tn), (0, vr X 30), (1, vi b)]) dX2_readPlain_118 rfl (by decide) rfl ?_
        refine g_sub [2, 1, 0, 3, 4] rfl ?_
        exact j_X2_readPlain_y_120 X M hi b hb K W m i hts hat him lv hlv hsl hb8 hrec tn z5 0 M10 iM10 fM10 q31_1_M10 q37_1_M10 (by omega) (by omega) (by omega) jM6 lvM6 (by omega) (by omega) (by omega) tsM10 (fun _ => (pl_s1 hn nw q1.2 (gM6.1 (by omega)).2).no (gM6.1 (by omega)).1 (by omega) (by omega) (by omega)) (fun z => absurd rfl z)
  · replace q1 := q1.resolve_right (fun h => c3 h.1)
    refine g_iload_n (pc' := 52) 2 dX2_readPlain_51 rfl rfl ?_
    refine g_bipush (pc' := 54) (v := 8) dX2_readPlain_52 rfl (by decide) ?_
    refine g_ic_ge (pc' := 57) (tgt := 95) hb (by decide) dX2_readPlain_54 rfl rfl (fun c11 => ?_) (fun c11 => ?_)
    · refine g_iconst (pc' := 96) dX2_readPlain_95 rfl ?_
      refine g_istore_n (pc' := 97) (i := 3) (L' := [(3, vi 0), (2, vi tn), (0, vr X 30), (1, vi b)]) dX2_readPlain_96 rfl rfl (by decide) rfl ?_
      refine g_goto (tgt := 150) dX2_readPlain_97 rfl ?_
      refine g_sub [1, 0, 2, 3] rfl ?_
      exact j_X2_readPlain_y_150 X M hi b hb K W m i hts hat him lv hlv hsl hb8 hrec tn 0 M1 ic1 fr1 q31_1 q37_1 (by omega) (by omega) jx lv (by omega) (by omega) (by omega) ts1 (fun _ => (pl_8 hn q1.2 (by omega))) (fun z => absurd z (by decide))
    · refine g_aload_n (pc' := 58) 1 dX2_readPlain_57 rfl rfl ?_
      refine g_getR (pc' := 61) dX2_readPlain_58 rfl f_X2_12 rfl rfl ?_
      refine g_bipush (pc' := 63) (v := 40) dX2_readPlain_61 rfl (by decide) ?_
      refine g_callVi (pc' := 66) (As := [vi 40]) (b := 31) (S := []) dX2_readPlain_63 rfl m_X2_50 w_X8_takeSign (c_X8_takeSign_x X M1 ic1 40 (by decide) K W m jx ts1 at1 (by omega)) rfl ⟨_, _, _, rfl, rfl, rfl⟩ (by omega) (by decide) rfl (Nat.le_of_ble_eq_true rfl) (fun z13 M14 q12 => ?_)
      obtain ⟨iM14, fM140, eM14_31_1, pM14⟩ := q12
      have fM14 : Fr (fun c => c = 30 ∨ c = 31 ∨ c = 37 ∨ c = 39 ∨ c = 40) M M14 := Fr.tr fr1 fM140 fi_67
      have q31_1_M14 : id (M14 31 1 = M 31 1) := eM14_31_1.trans q31_1
      have q37_1_M14 : id (M14 37 1 = M 37 1) := (congrFun (fM140 37 (by first | decide | omega | (dsimp only; omega))) 1).trans q37_1
      have wM14_30_2 : M14 30 2 = M1 30 2 := (congrFun (fM140 30 (by first | decide | omega | (dsimp only; omega))) 2)
      have wM14_37_4 : M14 37 4 = M1 37 4 := (congrFun (fM140 37 (by first | decide | omega | (dsimp only; omega))) 4)
      clear eM14_31_1
      have tsM14 : TS M14 K W m := TS.fr ts1 fM140 (fun c h1 h2 => by first | omega | (dsimp only; omega))
      have k39M14 : M14 39 = M1 39 := (fM140 39 (by decide))
      have k40M14 : M14 40 = M1 40 := (fM140 40 (by decide))
      refine g_if_eq (pc' := 69) (tgt := 95) ⟨by omega, by omega⟩ dX2_readPlain_66 rfl rfl (fun c15 => ?_) (fun c15 => ?_)
      · refine g_iconst (pc' := 96) dX2_readPlain_95 rfl ?_
        refine g_istore_n (pc' := 97) (i := 3) (L' := [(3, vi 0), (2, vi tn), (0, vr X 30), (1, vi b)]) dX2_readPlain_96 rfl rfl (by decide) rfl ?_
        refine g_goto (tgt := 150) dX2_readPlain_97 rfl ?_
        refine g_sub [1, 0, 2, 3] rfl ?_
        exact j_X2_readPlain_y_150 X M hi b hb K W m i hts hat him lv hlv hsl hb8 hrec tn 0 M14 iM14 fM14 q31_1_M14 q37_1_M14 (by omega) (by omega) jx lv (by omega) (by omega) (by omega) tsM14 (fun _ => (False.elim (by omega))) (fun z => absurd z (by decide))
      · refine g_aload_n (pc' := 70) 1 dX2_readPlain_69 rfl rfl ?_
        refine g_iload_n (pc' := 71) 2 dX2_readPlain_70 rfl rfl ?_
        refine g_iconst (pc' := 72) dX2_readPlain_71 rfl ?_
        refine g_iadd (pc' := 73) dX2_readPlain_72 rfl ?_
        refine g_callVi (pc' := 76) (As := [vi (b + 1)]) (b := 30) (S := []) dX2_readPlain_73 rfl m_X2_118 w_X2_readTest (hrec M14 iM14 (jx + 1) lv tsM14 (by omega) (by omega) (by omega) (by omega) (by omega)) rfl ⟨_, _, _, rfl, rfl, rfl⟩ (by omega) (by decide) rfl (Nat.le_of_ble_eq_true rfl) (fun z17 M18 q16 => ?_)
        obtain ⟨iM18, fM180, eM18_31_1, eM18_37_1, pM18⟩ := q16
        have fM18 : Fr (fun c => c = 30 ∨ c = 31 ∨ c = 37 ∨ c = 39 ∨ c = 40) M M18 := Fr.tr fM14 fM180 (fun _ z => z)
        have q31_1_M18 : id (M18 31 1 = M 31 1) := eM18_31_1.trans q31_1_M14
        have q37_1_M18 : id (M18 37 1 = M 37 1) := eM18_37_1.trans q37_1_M14
        clear eM18_31_1 eM18_37_1
        have tsM18 : TS M18 K W m := TS.fr tsM14 fM180 (fun c h1 h2 => by first | omega | (dsimp only; omega))
        obtain ⟨pzM18, jM18, lvM18, paM18, plM18, piM18, pmM18, yM18⟩ := pM18
        have gM18 := yM18.rs
        have ylM18 : z17 = 1 → (M14 37 4 ≤ M18 37 4 ∧ M18 37 4 - M14 37 4 ≤ (jM18 : Int) - (jx + 1)) ∧ (lv < lvM18 ∧ lvM18 ≤ 50) := fun z => ⟨(yM18.2 z).2.1, (yM18.2 z).2.2.2.1⟩
        refine g_if_eq (pc' := 79) (tgt := 95) ⟨by omega, by omega⟩ dX2_readPlain_76 rfl rfl (fun c19 => ?_) (fun c19 => ?_)
        · refine g_iconst (pc' := 96) dX2_readPlain_95 rfl ?_
          refine g_istore_n (pc' := 97) (i := 3) (L' := [(3, vi 0), (2, vi tn), (0, vr X 30), (1, vi b)]) dX2_readPlain_96 rfl rfl (by decide) rfl ?_
          refine g_goto (tgt := 150) dX2_readPlain_97 rfl ?_
          refine g_sub [1, 0, 2, 3] rfl ?_
          exact j_X2_readPlain_y_150 X M hi b hb K W m i hts hat him lv hlv hsl hb8 hrec tn 0 M18 iM18 fM18 q31_1_M18 q37_1_M18 (by omega) (by omega) jM18 lvM18 (by omega) (by omega) (by omega) tsM18 (fun _ => (pl_in0 hn q1.2 (by omega) (gM18.2 (by omega)))) (fun z => absurd z (by decide))
        · refine g_aload_n (pc' := 80) 1 dX2_readPlain_79 rfl rfl ?_
          refine g_getR (pc' := 83) dX2_readPlain_80 rfl f_X2_12 rfl rfl ?_
          refine g_bipush (pc' := 85) (v := 41) dX2_readPlain_83 rfl (by decide) ?_
          refine g_callVi (pc' := 88) (As := [vi 41]) (b := 31) (S := []) dX2_readPlain_85 rfl m_X2_50 w_X8_takeSign (c_X8_takeSign_x X M18 iM18 41 (by decide) K W m jM18 tsM18 (by omega) (by omega)) rfl ⟨_, _, _, rfl, rfl, rfl⟩ (by omega) (by decide) rfl (Nat.le_of_ble_eq_true rfl) (fun z21 M22 q20 => ?_)
          obtain ⟨iM22, fM220, eM22_31_1, pM22⟩ := q20
          have fM22 : Fr (fun c => c = 30 ∨ c = 31 ∨ c = 37 ∨ c = 39 ∨ c = 40) M M22 := Fr.tr fM18 fM220 fi_67
          have q31_1_M22 : id (M22 31 1 = M 31 1) := eM22_31_1.trans q31_1_M18
          have q37_1_M22 : id (M22 37 1 = M 37 1) := (congrFun (fM220 37 (by first | decide | omega | (dsimp only; omega))) 1).trans q37_1_M18
          have wM22_30_2 : M22 30 2 = M18 30 2 := (congrFun (fM220 30 (by first | decide | omega | (dsimp only; omega))) 2)
          have wM22_37_4 : M22 37 4 = M18 37 4 := (congrFun (fM220 37 (by first | decide | omega | (dsimp only; omega))) 4)
          clear eM22_31_1
          have tsM22 : TS M22 K W m := TS.fr tsM18 fM220 (fun c h1 h2 => by first | omega | (dsimp only; omega))
          have k39M22 : M22 39 = M18 39 := (fM220 39 (by decide))
          have k40M22 : M22 40 = M18 40 := (fM220 40 (by decide))
          refine g_if_eq (pc' := 91) (tgt := 95) ⟨by omega, by omega⟩ dX2_readPlain_88 rfl rfl (fun c23 => ?_) (fun c23 => ?_)
          · refine g_iconst (pc' := 96) dX2_readPlain_95 rfl ?_
            refine g_istore_n (pc' := 97) (i := 3) (L' := [(3, vi 0), (2, vi tn), (0, vr X 30), (1, vi b)]) dX2_readPlain_96 rfl rfl (by decide) rfl ?_
            refine g_goto (tgt := 150) dX2_readPlain_97 rfl ?_
            refine g_sub [1, 0, 2, 3] rfl ?_
            exact j_X2_readPlain_y_150 X M hi b hb K W m i hts hat him lv hlv hsl hb8 hrec tn 0 M22 iM22 fM22 q31_1_M22 q37_1_M22 (by omega) (by omega) jM18 lvM18 (by omega) (by omega) (by omega) tsM22 (fun _ => (pl_in1 hn q1.2 (by omega) ((gM18.1 (by omega)).1) ((gM18.1 (by omega)).2) (by omega))) (fun z => absurd z (by decide))
          · have ya := ylM18 (by omega)
            refine g_iconst (pc' := 92) dX2_readPlain_91 rfl ?_
            refine g_goto (tgt := 96) dX2_readPlain_92 rfl ?_
            refine g_istore_n (pc' := 97) (i := 3) (L' := [(3, vi 1), (2, vi tn), (0, vr X 30), (1, vi b)]) dX2_readPlain_96 rfl rfl (by decide) rfl ?_
            refine g_goto (tgt := 150) dX2_readPlain_97 rfl ?_
            refine g_sub [1, 0, 2, 3] rfl ?_
            exact j_X2_readPlain_y_150 X M hi b hb K W m i hts hat him lv hlv hsl hb8 hrec tn 1 M22 iM22 fM22 q31_1_M22 q37_1_M22 (by omega) (by omega) (jM18 + 1) lvM18 (by omega) (by omega) (by omega) tsM22 (fun z => absurd z (by decide)) (fun _ => ⟨⟨by omega, (CDS.eq (M := M) (M1 := M14) (by omega) (k39M14.trans n9) (k40M14.trans n4)).tr ((yM18.2 (by omega)).2.2.1.tr (CDS.eq (by omega) k39M22 k40M22)), by omega⟩, ql_in2 hn q1.2 (by omega) (yM18.2 (by omega)).1 (yM18.2 (by omega)).2.2.2.2 (by omega) (fun f q => ⟨f, rfl, by rw [k39M22, k40M22, show M22 37 4 = M18 37 4 by omega]; rw [show M 37 4 = M14 37 4 by omega]; exact q.1, q.2⟩)⟩)
set_option maxHeartbeats 4000000 in
set_option maxRecDepth 100000 in
theorem l_X2_readPlain_y_4 (X : Cx) (M : Mm) (hi : IC M) (b : Int) (hb : inI b) (K W : Nat → Int) (m i : Nat) (hts : TS M K W m) (hat : M 31 7 = (i : Int)) (him : i ≤ m) (lv : Int) (hlv : M 30 2 = lv) (hsl : 0 ≤ M 37 4 ∧ M 37 4 ≤ (i : Int)) (hb8 : 0 ≤ b ∧ b ≤ 8) (hrec : ∀ (M : Mm) (_ : IC M) (i : Nat) (lv : Int), TS M K W m → M 31 7 = (i : Int) → i ≤ m → M 30 2 = lv → (0 ≤ M 37 4 ∧ M 37 4 ≤ (i : Int)) → b < 8 → Con X (16 + 3 * (8 - (b + 1)).toNat) yX2_readTest cX2_readTest 5 (some .boolean) [vr X 30, vi (b + 1)] M (Qi (fun r M1 => IC M1 ∧ Fr (fun c => c = 30 ∨ c = 31 ∨ c = 37 ∨ c = 39 ∨ c = 40) M M1 ∧ M1 31 1 = M 31 1 ∧ M1 37 1 = M 37 1 ∧ ((r = 0 ∨ r = 1) ∧ ∃ (j : Nat) (lv1 : Int), M1 31 7 = (j : Int) ∧ M1 30 2 = lv1 ∧ i ≤ j ∧ j ≤ m ∧ TY K W 1 (b + 1) M M1 i lv r j lv1)))) : ∀ (kk : Nat) (tn : Int) (n : Int) (M1 : Mm) (ic1 : IC M1) (fr1 : Fr (fun c => c = 30 ∨ c = 31 ∨ c = 37 ∨ c = 39 ∨ c = 40) M M1) (q31_1 : id (M1 31 1 = M 31 1)) (q37_1 : id (M1 37 1 = M 37 1)) (h2 : tn = 0 ∨ tn = 1) (h0 : 0 ≤ n ∧ n ≤ 400) (jx : Nat) (at1 : M1 31 7 = (jx : Int)) (ij : i ≤ jx ∧ jx ≤ m) (ts1 : TS M1 K W m) (lv1 : M1 30 2 = lv) (nj : n ≤ jx) (hn : PLn K W i jx tn) (nc : M1 37 4 = M 37 4) (n9 : M1 39 = M 39) (n4 : M1 40 = M 40) (tj : tn ≤ (jx : Int) - i), (400 - n).toNat = kk → G X (14 + 3 * (8 - b).toNat) RX2 cX2_readPlain 5 (some .boolean) (Qi (fun r M1 => IC M1 ∧ Fr (fun c => c = 30 ∨ c = 31 ∨ c = 37 ∨ c = 39 ∨ c = 40) M M1 ∧ M1 31 1 = M 31 1 ∧ M1 37 1 = M 37 1 ∧ ((r = 0 ∨ r = 1) ∧ ∃ (j : Nat) (lv1 : Int), M1 31 7 = (j : Int) ∧ M1 30 2 = lv1 ∧ i ≤ j ∧ j ≤ m ∧ TY K W 3 b M M1 i lv r j lv1))) 4 [(2, vi tn), (3, vi n), (0, vr X 30), (1, vi b)] [] M1 := by
  intro kk
  induction kk using Nat.strongRecOn with
  | ind kk ih =>
    intro tn n M1 ic1 fr1 q31_1 q37_1 h2 h0 jx at1 ij ts1 lv1 nj hn nc n9 n4 tj hmes
    have hm4 := hts.m4
    have hmK : ∀ q : Nat, q ≤ m → K q ≠ 0 → q < m := fun q h1 h2 => hts.lt h1 h2
    have hmj := hmK jx ij.2
    refine g_iload_n (pc' := 5) 1 dX2_readPlain_4 rfl rfl ?_
    refine g_sipush (pc' := 8) (v := 400) dX2_readPlain_5 rfl (by decide) ?_
    refine g_ic_ge (pc' := 11) (tgt := 39) ⟨by omega, by omega⟩ (by decide) dX2_readPlain_8 rfl rfl (fun c1 => ?_) (fun c1 => ?_)
    · refine g_sub [0, 2, 3] rfl ?_
      exact j_X2_readPlain_y_39 X M hi b hb K W m i hts hat him lv hlv hsl hb8 hrec tn M1 ic1 fr1 q31_1 q37_1 (by omega) jx (by omega) (by omega) ts1 (by omega) hn (by omega) (by omega) n9 n4 (by omega)
    · refine g_aload_n (pc' := 12) 2 dX2_readPlain_11 rfl rfl ?_
      refine g_getR (pc' := 15) dX2_readPlain_12 rfl f_X2_12 rfl rfl ?_
      refine g_ldcS (pc' := 17) (j := 11) dX2_readPlain_15 rfl rfl ?_
      refine g_callVi (pc' := 20) (As := [vs X 11]) (b := 31) (S := []) dX2_readPlain_17 rfl m_X2_65 w_X8_takeWord (c_X8_takeWord_x X M1 ic1 11 (by decide) K W m jx ts1 at1 (by omega)) rfl ⟨_, _, _, rfl, rfl, rfl⟩ (by omega) (by decide) rfl (Nat.le_of_ble_eq_true rfl) (fun z3 M4 q2 => ?_)
      obtain ⟨iM4, fM40, eM4_31_1, pM4⟩ := q2
      have fM4 : Fr (fun c => c = 30 ∨ c = 31 ∨ c = 37 ∨ c = 39 ∨ c = 40) M M4 := Fr.tr fr1 fM40 fi_67
      have q31_1_M4 : id (M4 31 1 = M 31 1) := eM4_31_1.trans q31_1
      have q37_1_M4 : id (M4 37 1 = M 37 1) := (congrFun (fM40 37 (by first | decide | omega | (dsimp only; omega))) 1).trans q37_1
      have wM4_30_2 : M4 30 2 = M1 30 2 := (congrFun (fM40 30 (by first | decide | omega | (dsimp only; omega))) 2)
      have wM4_37_4 : M4 37 4 = M1 37 4 := (congrFun (fM40 37 (by first | decide | omega | (dsimp only; omega))) 4)
      clear eM4_31_1
      have tsM4 : TS M4 K W m := TS.fr ts1 fM40 (fun c h1 h2 => by first | omega | (dsimp only; omega))
      rw [cw_11] at pM4
      have k39M4 : M4 39 = M1 39 := (fM40 39 (by decide))
      have k40M4 : M4 40 = M1 40 := (fM40 40 (by decide))
      refine g_if_eq (pc' := 23) (tgt := 39) ⟨by omega, by omega⟩ dX2_readPlain_20 rfl rfl (fun c5 => ?_) (fun c5 => ?_)
      · refine g_sub [0, 2, 3] rfl ?_
        exact j_X2_readPlain_y_39 X M hi b hb K W m i hts hat him lv hlv hsl hb8 hrec tn M4 iM4 fM4 q31_1_M4 q37_1_M4 (by omega) jx (by omega) (by omega) tsM4 (by omega) hn (by omega) (by omega) (k39M4.trans n9) (k40M4.trans n4) (by omega)
      · refine g_iload_n (pc' := 24) 0 dX2_readPlain_23 rfl rfl ?_
        refine g_if_ne (pc' := 27) (tgt := 31) ⟨by omega, by omega⟩ dX2_readPlain_24 rfl rfl (fun c6 => ?_) (fun c6 => ?_)
        · refine g_iconst (pc' := 32) dX2_readPlain_31 rfl ?_
          refine g_istore_n (pc' := 33) (i := 2) (L' := [(2, vi 0), (3, vi n), (0, vr X 30), (1, vi b)]) dX2_readPlain_32 rfl rfl (by decide) rfl ?_
          refine g_iinc (pc' := 36) (L' := [(3, vi (n + 1)), (2, vi 0), (0, vr X 30), (1, vi b)]) 1 dX2_readPlain_33 rfl rfl (by decide) rfl ?_
          refine g_goto (tgt := 4) dX2_readPlain_36 rfl ?_
          refine g_sub [1, 0, 2, 3] rfl ?_
          exact ih _ (by omega) 0 (n + 1) M4 iM4 fM4 q31_1_M4 q37_1_M4 (by omega) (by omega) (jx + 1) (by omega) (by omega) tsM4 (by omega) (by omega) (by have y := hn.one (show isWd K W jx 14836 by omega); rw [show 1 - tn = 0 by omega] at y; exact y) (by omega) (k39M4.trans n9) (k40M4.trans n4) (by omega) rfl
        · refine g_iconst (pc' := 28) dX2_readPlain_27 rfl ?_
          refine g_goto (tgt := 32) dX2_readPlain_28 rfl ?_
          refine g_istore_n (pc' := 33) (i := 2) (L' := [(2, vi 1), (3, vi n), (0, vr X 30), (1, vi b)]) dX2_readPlain_32 rfl rfl (by decide) rfl ?_
          refine g_iinc (pc' := 36) (L' := [(3, vi (n + 1)), (2, vi 1), (0, vr X 30), (1, vi b)]) 1 dX2_readPlain_33 rfl rfl (by decide) rfl ?_
          refine g_goto (tgt := 4) dX2_readPlain_36 rfl ?_
          refine g_sub [1, 0, 2, 3] rfl ?_
          exact ih _ (by omega) 1 (n + 1) M4 iM4 fM4 q31_1_M4 q37_1_M4 (by omega) (by omega) (jx + 1) (by omega) (by omega) tsM4 (by omega) (by omega) (by have y := hn.one (show isWd K W jx 14836 by omega); rw [show 1 - tn = 1 by omega] at y; exact y) (by omega) (k39M4.trans n9) (k40M4.trans n4) (by omega) rfl
set_option maxHeartbeats 4000000 in
set_option maxRecDepth 100000 in
theorem c_X2_readPlain_y (X : Cx) (M : Mm) (hi : IC M) (b : Int) (hb : inI b) (K W : Nat → Int) (m i : Nat) (hts : TS M K W m) (hat : M 31 7 = (i : Int)) (him : i ≤ m) (lv : Int) (hlv : M 30 2 = lv) (hsl : 0 ≤ M 37 4 ∧ M 37 4 ≤ (i : Int)) (hb8 : 0 ≤ b ∧ b ≤ 8) (hrec : ∀ (M : Mm) (_ : IC M) (i : Nat) (lv : Int), TS M K W m → M 31 7 = (i : Int) → i ≤ m → M 30 2 = lv → (0 ≤ M 37 4 ∧ M 37 4 ≤ (i : Int)) → b < 8 → Con X (16 + 3 * (8 - (b + 1)).toNat) yX2_readTest cX2_readTest 5 (some .boolean) [vr X 30, vi (b + 1)] M (Qi (fun r M1 => IC M1 ∧ Fr (fun c => c = 30 ∨ c = 31 ∨ c = 37 ∨ c = 39 ∨ c = 40) M M1 ∧ M1 31 1 = M 31 1 ∧ M1 37 1 = M 37 1 ∧ ((r = 0 ∨ r = 1) ∧ ∃ (j : Nat) (lv1 : Int), M1 31 7 = (j : Int) ∧ M1 30 2 = lv1 ∧ i ≤ j ∧ j ≤ m ∧ TY K W 1 (b + 1) M M1 i lv r j lv1)))) : Con X (14 + 3 * (8 - b).toNat) yX2_readPlain cX2_readPlain 5 (some .boolean) [vr X 30, vi b] M (Qi (fun r M1 => IC M1 ∧ Fr (fun c => c = 30 ∨ c = 31 ∨ c = 37 ∨ c = 39 ∨ c = 40) M M1 ∧ M1 31 1 = M 31 1 ∧ M1 37 1 = M 37 1 ∧ ((r = 0 ∨ r = 1) ∧ ∃ (j : Nat) (lv1 : Int), M1 31 7 = (j : Int) ∧ M1 30 2 = lv1 ∧ i ≤ j ∧ j ≤ m ∧ TY K W 3 b M M1 i lv r j lv1))) := by
  refine Con.ofG rfl (Nat.le_of_ble_eq_true rfl) ?_
  show G X (14 + 3 * (8 - b).toNat) RX2 cX2_readPlain 5 (some .boolean) (Qi (fun r M1 => IC M1 ∧ Fr (fun c => c = 30 ∨ c = 31 ∨ c = 37 ∨ c = 39 ∨ c = 40) M M1 ∧ M1 31 1 = M 31 1 ∧ M1 37 1 = M 37 1 ∧ ((r = 0 ∨ r = 1) ∧ ∃ (j : Nat) (lv1 : Int), M1 31 7 = (j : Int) ∧ M1 30 2 = lv1 ∧ i ≤ j ∧ j ≤ m ∧ TY K W 3 b M M1 i lv r j lv1))) 0 [(0, vr X 30), (1, vi b)] [] M
  have hm4 := hts.m4
  have hmK : ∀ q : Nat, q ≤ m → K q ≠ 0 → q < m := fun q h1 h2 => hts.lt h1 h2
  refine g_iconst (pc' := 1) dX2_readPlain_0 rfl ?_
  refine g_istore_n (pc' := 2) (i := 2) (L' := [(2, vi 0), (0, vr X 30), (1, vi b)]) dX2_readPlain_1 rfl rfl (by decide) rfl ?_
  refine g_iconst (pc' := 3) dX2_readPlain_2 rfl ?_
  refine g_istore_n (pc' := 4) (i := 3) (L' := [(3, vi 0), (2, vi 0), (0, vr X 30), (1, vi b)]) dX2_readPlain_3 rfl rfl (by decide) rfl ?_
  refine g_sub [1, 0, 2, 3] rfl ?_
  exact l_X2_readPlain_y_4 X M hi b hb K W m i hts hat him lv hlv hsl hb8 hrec _ 0 0 M hi Fr.rf rfl rfl (by omega) (by omega) i (by omega) (by omega) hts (by omega) (by omega) (PLn.zero K W i) (by omega) rfl rfl (by omega) rfl
set_option maxHeartbeats 4000000 in
set_option maxRecDepth 100000 in
theorem l_X2_readBoth_y_8 (X : Cx) (M : Mm) (hi : IC M) (b : Int) (hb : inI b) (K W : Nat → Int) (m i : Nat) (hts : TS M K W m) (hat : M 31 7 = (i : Int)) (him : i ≤ m) (lv : Int) (hlv : M 30 2 = lv) (hsl : 0 ≤ M 37 4 ∧ M 37 4 ≤ (i : Int)) (hb8 : 0 ≤ b ∧ b ≤ 8) (hsub : ∀ (M : Mm) (_ : IC M) (i : Nat) (lv : Int), TS M K W m → M 31 7 = (i : Int) → i ≤ m → M 30 2 = lv → (0 ≤ M 37 4 ∧ M 37 4 ≤ (i : Int)) → Con X (14 + 3 * (8 - b).toNat) yX2_readPlain cX2_readPlain 5 (some .boolean) [vr X 30, vi b] M (Qi (fun r M1 => IC M1 ∧ Fr (fun c => c = 30 ∨ c = 31 ∨ c = 37 ∨ c = 39 ∨ c = 40) M M1 ∧ M1 31 1 = M 31 1 ∧ M1 37 1 = M 37 1 ∧ ((r = 0 ∨ r = 1) ∧ ∃ (j : Nat) (lv1 : Int), M1 31 7 = (j : Int) ∧ M1 30 2 = lv1 ∧ i ≤ j ∧ j ≤ m ∧ TY K W 3 b M M1 i lv r j lv1)))) : ∀ (kk : Nat) (re : Int) (n : Int) (M1 : Mm) (ic1 : IC M1) (fr1 : Fr (fun c => c = 30 ∨ c = 31 ∨ c = 37 ∨ c = 39 ∨ c = 40) M M1) (q31_1 : id (M1 31 1 = M 31 1)) (q37_1 : id (M1 37 1 = M 37 1)) (h2 : re = 0 ∨ re = 1) (h0 : 0 ≤ n ∧ n ≤ 400) (jx : Nat) (lx : Int) (at1 : M1 31 7 = (jx : Int)) (lv1 : M1 30 2 = lx) (ij : i ≤ jx ∧ jx ≤ m) (ts1 : TS M1 K W m) (nj : re = 1 → n + 1 ≤ jx) (hc0 : re = 0 → RTb K W 2 b i lv jx) (hc1 : re = 1 → (NT K W 3 jx ∧ (M 37 4 ≤ M1 37 4 ∧ M1 37 4 - M 37 4 ≤ (jx : Int) - i) ∧ CDS M M1 ∧ (lv < lx ∧ lx ≤ 50)) ∧ RTmQ (fun f => MC (M1 39) (M1 40) (M 37 4).toNat (M1 37 4).toNat (lx - lv) f ∧ T01 f) K W 2 b i lv jx lx), (400 - n).toNat = kk → G X (15 + 3 * (8 - b).toNat) RX2 cX2_readBoth 5 (some .boolean) (Qi (fun r M1 => IC M1 ∧ Fr (fun c => c = 30 ∨ c = 31 ∨ c = 37 ∨ c = 39 ∨ c = 40) M M1 ∧ M1 31 1 = M 31 1 ∧ M1 37 1 = M 37 1 ∧ ((r = 0 ∨ r = 1) ∧ ∃ (j : Nat) (lv1 : Int), M1 31 7 = (j : Int) ∧ M1 30 2 = lv1 ∧ i ≤ j ∧ j ≤ m ∧ TY K W 2 b M M1 i lv r j lv1))) 8 [(2, vi re), (3, vi n), (0, vr X 30), (1, vi b)] [] M1 := by
  intro kk
  induction kk using Nat.strongRecOn with
  | ind kk ih =>
    intro re n M1 ic1 fr1 q31_1 q37_1 h2 h0 jx lx at1 lv1 ij ts1 nj hc0 hc1 hmes
    have hm4 := hts.m4
    have hmK : ∀ q : Nat, q ≤ m → K q ≠ 0 → q < m := fun q h1 h2 => hts.lt h1 h2
    have hmj := hmK jx ij.2
    refine g_iload_n (pc' := 9) 1 dX2_readBoth_8 rfl rfl ?_
    refine g_sipush (pc' := 12) (v := 400) dX2_readBoth_9 rfl (by decide) ?_
    refine g_ic_ge (pc' := 15) (tgt := 64) ⟨by omega, by omega⟩ (by decide) dX2_readBoth_12 rfl rfl (fun c1 => ?_) (fun c1 => ?_)
    · refine g_iload_n (pc' := 65) 0 dX2_readBoth_64 rfl rfl ?_
      refine g_zreturn dX2_readBoth_65 (by omega) ?_
      exact ⟨ic1, fr1, q31_1, q37_1, by omega, jx, lx, by omega, by omega, by omega, by omega, ⟨fun y => hc0 y, fun y => ⟨⟨fun _ => by omega, fun z => absurd z (by decide)⟩, by have := (hc1 y).1.2.1; omega, (hc1 y).1.2.2.1.tr (CDS.eq (by omega) rfl rfl), (hc1 y).1.2.2.2, (hc1 y).2.mp (fun f q => by rw [show M1 37 4 = M1 37 4 by omega]; exact q)⟩⟩⟩
    · refine g_iload_n (pc' := 16) 0 dX2_readBoth_15 rfl rfl ?_
      refine g_if_eq (pc' := 19) (tgt := 64) ⟨by omega, by omega⟩ dX2_readBoth_16 rfl rfl (fun c2 => ?_) (fun c2 => ?_)
      · refine g_iload_n (pc' := 65) 0 dX2_readBoth_64 rfl rfl ?_
        refine g_zreturn dX2_readBoth_65 (by omega) ?_
        exact ⟨ic1, fr1, q31_1, q37_1, by omega, jx, lx, by omega, by omega, by omega, by omega, ⟨fun y => hc0 y, fun y => ⟨⟨fun _ => by omega, fun z => absurd z (by decide)⟩, by have := (hc1 y).1.2.1; omega, (hc1 y).1.2.2.1.tr (CDS.eq (by omega) rfl rfl), (hc1 y).1.2.2.2, (hc1 y).2.mp (fun f q => by rw [show M1 37 4 = M1 37 4 by omega]; exact q)⟩⟩⟩
      · refine g_aload_n (pc' := 20) 2 dX2_readBoth_19 rfl rfl ?_
        refine g_getR (pc' := 23) dX2_readBoth_20 rfl f_X2_12 rfl rfl ?_
        refine g_ldcS (pc' := 25) (j := 12) dX2_readBoth_23 rfl rfl ?_
        refine g_callVi (pc' := 28) (As := [vs X 12]) (b := 31) (S := []) dX2_readBoth_25 rfl m_X2_65 w_X8_takeWord (c_X8_takeWord_x X M1 ic1 12 (by decide) K W m jx ts1 at1 (by omega)) rfl ⟨_, _, _, rfl, rfl, rfl⟩ (by omega) (by decide) rfl (Nat.le_of_ble_eq_true rfl) (fun z4 M5 q3 => ?_)
        obtain ⟨iM5, fM50, eM5_31_1, pM5⟩ := q3
        have fM5 : Fr (fun c => c = 30 ∨ c = 31 ∨ c = 37 ∨ c = 39 ∨ c = 40) M M5 := Fr.tr fr1 fM50 fi_67
        have q31_1_M5 : id (M5 31 1 = M 31 1) := eM5_31_1.trans q31_1
        have q37_1_M5 : id (M5 37 1 = M 37 1) := (congrFun (fM50 37 (by first | decide | omega | (dsimp only; omega))) 1).trans q37_1
        have wM5_30_2 : M5 30 2 = M1 30 2 := (congrFun (fM50 30 (by first | decide | omega | (dsimp only; omega))) 2)
        have wM5_37_4 : M5 37 4 = M1 37 4 := (congrFun (fM50 37 (by first | decide | omega | (dsimp only; omega))) 4)
        clear eM5_31_1
        have tsM5 : TS M5 K W m := TS.fr ts1 fM50 (fun c h1 h2 => by first | omega | (dsimp only; omega))
        rw [cw_12] at pM5
        have k39M5 : M5 39 = M1 39 := (fM50 39 (by decide))
        have k40M5 : M5 40 = M1 40 := (fM50 40 (by decide))
        refine g_if_eq (pc' := 31) (tgt := 64) ⟨by omega, by omega⟩ dX2_readBoth_28 rfl rfl (fun c6 => ?_) (fun c6 => ?_)
        · refine g_iload_n (pc' := 65) 0 dX2_readBoth_64 rfl rfl ?_
          refine g_zreturn dX2_readBoth_65 (by omega) ?_
          exact ⟨iM5, fM5, q31_1_M5, q37_1_M5, by omega, jx, lx, by omega, by omega, by omega, by omega, ⟨fun y => hc0 y, fun y => ⟨⟨fun _ => by omega, fun z => absurd z (by decide)⟩, by have := (hc1 y).1.2.1; omega, (hc1 y).1.2.2.1.tr (CDS.eq (by omega) k39M5 k40M5), (hc1 y).1.2.2.2, (hc1 y).2.mp (fun f q => by rw [k39M5, k40M5, show M5 37 4 = M1 37 4 by omega]; exact q)⟩⟩⟩
        · have hcc := hc1 (by omega)
          have hcb := hcc.1.2.1
          have hcd := hcc.1.2.2.1
          have hcl := hcc.1.2.2.2
          have ro := hcc.2.and_ (show isWd K W jx 1476 by omega)
          refine g_aload_n (pc' := 32) 2 dX2_readBoth_31 rfl rfl ?_
          refine g_getR (pc' := 35) dX2_readBoth_32 rfl f_X2_21 rfl rfl ?_
          refine g_bipush (pc' := 37) (v := 14) dX2_readBoth_35 rfl (by decide) ?_
          refine g_iconst (pc' := 38) dX2_readBoth_37 rfl ?_
          refine g_callVi (pc' := 41) (As := [vi 14, vi 0]) (b := 37) (S := []) dX2_readBoth_38 rfl m_X2_129 w_X4_write (c_X4_write_y X M5 iM5 14 (by decide) 0 (by decide)) rfl ⟨_, _, _, rfl, rfl, rfl⟩ (by omega) (by decide) rfl (Nat.le_of_ble_eq_true rfl) (fun z8 M9 q7 => ?_)
          obtain ⟨iM9, fM90, eM9_37_1, pM9⟩ := q7
          have fM9 : Fr (fun c => c = 30 ∨ c = 31 ∨ c = 37 ∨ c = 39 ∨ c = 40) M M9 := Fr.tr fM5 fM90 fi_69
          have q31_1_M9 : id (M9 31 1 = M 31 1) := (congrFun (fM90 31 (by first | decide | omega | (dsimp only; omega))) 1).trans q31_1_M5
          have q37_1_M9 : id (M9 37 1 = M 37 1) := eM9_37_1.trans q37_1_M5
          have wM9_30_2 : M9 30 2 = M5 30 2 := (congrFun (fM90 30 (by first | decide | omega | (dsimp only; omega))) 2)
          have wM9_31_7 : M9 31 7 = M5 31 7 := (congrFun (fM90 31 (by first | decide | omega | (dsimp only; omega))) 7)
          clear eM9_37_1
          have tsM9 : TS M9 K W m := TS.fr tsM5 fM90 (fun c h1 h2 => by first | omega | (dsimp only; omega))
          obtain ⟨wrM9, wzM9, w9M9, w0M9⟩ := pM9.2 (by omega)
          clear pM9
          have k39M9 : M9 39 = ms (M1 39) (M5 37 4).toNat 14 := by rw [w9M9, k39M5]
          have k40M9 : M9 40 = ms (M1 40) (M5 37 4).toNat 0 := by rw [w0M9, k40M5]
          refine g_istore (pc' := 43) (L' := [(4, vi z8), (2, vi re), (3, vi n), (0, vr X 30), (1, vi b)]) dX2_readBoth_41 rfl (by decide) rfl ?_
          refine g_aload_n (pc' := 44) 3 dX2_readBoth_43 rfl rfl ?_
          refine g_iload_n (pc' := 45) 4 dX2_readBoth_44 rfl rfl ?_
          refine g_callVi (pc' := 48) (As := [vi b]) (b := 30) (S := []) dX2_readBoth_45 rfl m_X2_136 w_X2_readPlain (hsub M9 iM9 (jx + 1) lx tsM9 (by omega) (by omega) (by omega) (by omega)) rfl ⟨_, _, _, rfl, rfl, rfl⟩ (by omega) (by decide) rfl (Nat.le_of_ble_eq_true rfl) (fun z11 M12 q10 => ?_)
          obtain ⟨iM12, fM120, eM12_31_1, eM12_37_1, pM12⟩ := q10
          have fM12 : Fr (fun c => c = 30 ∨ c = 31 ∨ c = 37 ∨ c = 39 ∨ c = 40) M M12 := Fr.tr fM9 fM120 (fun _ z => z)
          have q31_1_M12 : id (M12 31 1 = M 31 1) := eM12_31_1.trans q31_1_M9
          have q37_1_M12 : id (M12 37 1 = M 37 1) := eM12_37_1.trans q37_1_M9
          clear eM12_31_1 eM12_37_1
          have tsM12 : TS M12 K W m := TS.fr tsM9 fM120 (fun c h1 h2 => by first | omega | (dsimp only; omega))
          obtain ⟨pzM12, jM12, lvM12, paM12, plM12, piM12, pmM12, yM12⟩ := pM12
          have gM12 := yM12.rs
          have ylM12 : z11 = 1 → (M9 37 4 ≤ M12 37 4 ∧ M12 37 4 - M9 37 4 ≤ (jM12 : Int) - (jx + 1)) ∧ (lx < lvM12 ∧ lvM12 ≤ 50) := fun z => ⟨(yM12.2 z).2.1, (yM12.2 z).2.2.2.1⟩
          refine g_istore_n (pc' := 49) (i := 2) (L' := [(2, vi z11), (4, vi z8), (3, vi n), (0, vr X 30), (1, vi b)]) dX2_readBoth_48 rfl rfl (by decide) rfl ?_
          refine g_aload_n (pc' := 50) 3 dX2_readBoth_49 rfl rfl ?_
          refine g_getR (pc' := 53) dX2_readBoth_50 rfl f_X2_21 rfl rfl ?_
          refine g_iload (pc' := 55) 1 dX2_readBoth_53 rfl rfl ?_
          refine g_callVv (pc' := 58) (As := [vi z8]) (b := 37) (S := []) dX2_readBoth_55 rfl m_X2_132 w_X4_leadHere (c_X4_leadHere_y X M12 iM12 z8 ⟨by omega, by omega⟩) rfl ⟨_, _, _, rfl, rfl, rfl⟩ (by omega) (by decide) rfl (Nat.le_of_ble_eq_true rfl) (fun M14 q13 => ?_)
          obtain ⟨iM14, fM140, pM14⟩ := q13
          have fM14 : Fr (fun c => c = 30 ∨ c = 31 ∨ c = 37 ∨ c = 39 ∨ c = 40) M M14 := Fr.tr fM12 fM140 fi_70
          have q31_1_M14 : id (M14 31 1 = M 31 1) := (congrFun (fM140 31 (by first | decide | omega | (dsimp only; omega))) 1).trans q31_1_M12
          have q37_1_M14 : id (M14 37 1 = M 37 1) := (congrFun (fM140 37 (by first | decide | omega | (dsimp only; omega))) 1).trans q37_1_M12
          have wM14_30_2 : M14 30 2 = M12 30 2 := (congrFun (fM140 30 (by first | decide | omega | (dsimp only; omega))) 2)
          have wM14_31_7 : M14 31 7 = M12 31 7 := (congrFun (fM140 31 (by first | decide | omega | (dsimp only; omega))) 7)
          have wM14_37_4 : M14 37 4 = M12 37 4 := (congrFun (fM140 37 (by first | decide | omega | (dsimp only; omega))) 4)
          have tsM14 : TS M14 K W m := TS.fr tsM12 fM140 (fun c h1 h2 => by first | omega | (dsimp only; omega))
          refine g_iinc (pc' := 61) (L' := [(3, vi (n + 1)), (2, vi z11), (4, vi z8), (0, vr X 30), (1, vi b)]) 2 dX2_readBoth_58 rfl rfl (by decide) rfl ?_
          refine g_goto (tgt := 8) dX2_readBoth_61 rfl ?_
          refine g_sub [1, 0, 3, 4] rfl ?_
          exact ih _ (by omega) z11 (n + 1) M14 iM14 fM14 q31_1_M14 q37_1_M14 (by omega) (by omega) jM12 lvM12 (by omega) (by omega) (by omega) tsM14 (fun z => by have y := (gM12.1 z).2.1; have := nj (by omega); omega) (fun z => ro.q.no (l := 2) rfl (by decide) (gM12.2 z)) (fun z => by
              have yy := (yM12.2 z)
              have ya := ylM12 z
              have lq := pM14.2.2 (by omega)
              have hq : z8.toNat = (M1 37 4).toNat := by rw [show z8 = M1 37 4 by omega]
              rw [hq] at lq
              have k9 : M9 39 = ms (M1 39) (M1 37 4).toNat 14 := (k39M9.trans (by rw [show M5 37 4 = M1 37 4 by omega]))
              have k4 : M9 40 = ms (M1 40) (M1 37 4).toNat 0 := (k40M9.trans (by rw [show M5 37 4 = M1 37 4 by omega]))
              have cw : CDS M M9 := CDS.wr hcd (by omega) (by omega) k9 k4 rfl
              refine ⟨⟨yy.1, by omega, CDS.pat (cw.tr yy.2.2.1) (by omega) (by omega) pM14.2.1 lq (by omega), by omega⟩, ro.nx (l := 2) rfl (by decide) yy.2.2.2.2 (fun f k q1 q2 => ⟨MC.a2 (q := (M1 37 4).toNat) (e := (M14 37 4).toNat) (c := 14) q1.1 (by rw [show (M1 37 4).toNat + 1 = (M9 37 4).toNat by omega, show M14 37 4 = M12 37 4 by omega]; exact q2.1) k9 k4 yy.2.2.1 (by omega) pM14.2.1 lq (by omega) (by decide) (by omega), T01.ao q1.2 q2.2⟩)⟩) rfl
set_option maxHeartbeats 4000000 in
set_option maxRecDepth 100000 in
theorem c_X2_readBoth_y (X : Cx) (M : Mm) (hi : IC M) (b : Int) (hb : inI b) (K W : Nat → Int) (m i : Nat) (hts : TS M K W m) (hat : M 31 7 = (i : Int)) (him : i ≤ m) (lv : Int) (hlv : M 30 2 = lv) (hsl : 0 ≤ M 37 4 ∧ M 37 4 ≤ (i : Int)) (hb8 : 0 ≤ b ∧ b ≤ 8) (hsub : ∀ (M : Mm) (_ : IC M) (i : Nat) (lv : Int), TS M K W m → M 31 7 = (i : Int) → i ≤ m → M 30 2 = lv → (0 ≤ M 37 4 ∧ M 37 4 ≤ (i : Int)) → Con X (14 + 3 * (8 - b).toNat) yX2_readPlain cX2_readPlain 5 (some .boolean) [vr X 30, vi b] M (Qi (fun r M1 => IC M1 ∧ Fr (fun c => c = 30 ∨ c = 31 ∨ c = 37 ∨ c = 39 ∨ c = 40) M M1 ∧ M1 31 1 = M 31 1 ∧ M1 37 1 = M 37 1 ∧ ((r = 0 ∨ r = 1) ∧ ∃ (j : Nat) (lv1 : Int), M1 31 7 = (j : Int) ∧ M1 30 2 = lv1 ∧ i ≤ j ∧ j ≤ m ∧ TY K W 3 b M M1 i lv r j lv1)))) : Con X (15 + 3 * (8 - b).toNat) yX2_readBoth cX2_readBoth 5 (some .boolean) [vr X 30, vi b] M (Qi (fun r M1 => IC M1 ∧ Fr (fun c => c = 30 ∨ c = 31 ∨ c = 37 ∨ c = 39 ∨ c = 40) M M1 ∧ M1 31 1 = M 31 1 ∧ M1 37 1 = M 37 1 ∧ ((r = 0 ∨ r = 1) ∧ ∃ (j : Nat) (lv1 : Int), M1 31 7 = (j : Int) ∧ M1 30 2 = lv1 ∧ i ≤ j ∧ j ≤ m ∧ TY K W 2 b M M1 i lv r j lv1))) := by
  refine Con.ofG rfl (Nat.le_of_ble_eq_true rfl) ?_
  show G X (15 + 3 * (8 - b).toNat) RX2 cX2_readBoth 5 (some .boolean) (Qi (fun r M1 => IC M1 ∧ Fr (fun c => c = 30 ∨ c = 31 ∨ c = 37 ∨ c = 39 ∨ c = 40) M M1 ∧ M1 31 1 = M 31 1 ∧ M1 37 1 = M 37 1 ∧ ((r = 0 ∨ r = 1) ∧ ∃ (j : Nat) (lv1 : Int), M1 31 7 = (j : Int) ∧ M1 30 2 = lv1 ∧ i ≤ j ∧ j ≤ m ∧ TY K W 2 b M M1 i lv r j lv1))) 0 [(0, vr X 30), (1, vi b)] [] M
  have hm4 := hts.m4
  have hmK : ∀ q : Nat, q ≤ m → K q ≠ 0 → q < m := fun q h1 h2 => hts.lt h1 h2
  refine g_aload_n (pc' := 1) 0 dX2_readBoth_0 rfl rfl ?_
  refine g_iload_n (pc' := 2) 1 dX2_readBoth_1 rfl rfl ?_
  refine g_callVi (pc' := 5) (As := [vi b]) (b := 30) (S := []) dX2_readBoth_2 rfl m_X2_136 w_X2_readPlain (hsub M hi i lv hts hat him hlv (by omega)) rfl ⟨_, _, _, rfl, rfl, rfl⟩ (by omega) (by decide) rfl (Nat.le_of_ble_eq_true rfl) (fun z2 M3 q1 => ?_)
  obtain ⟨iM3, fM30, eM3_31_1, eM3_37_1, pM3⟩ := q1
  have fM3 : Fr (fun c => c = 30 ∨ c = 31 ∨ c = 37 ∨ c = 39 ∨ c = 40) M M3 := Fr.tr Fr.rf fM30 (fun _ z => z)
  have q31_1_M3 : id (M3 31 1 = M 31 1) := eM3_31_1
  have q37_1_M3 : id (M3 37 1 = M 37 1) := eM3_37_1
  clear eM3_31_1 eM3_37_1
  have tsM3 : TS M3 K W m := TS.fr hts fM30 (fun c h1 h2 => by first | omega | (dsimp only; omega))
  obtain ⟨pzM3, jM3, lvM3, paM3, plM3, piM3, pmM3, yM3⟩ := pM3
  have gM3 := yM3.rs
  have ylM3 : z2 = 1 → (M 37 4 ≤ M3 37 4 ∧ M3 37 4 - M 37 4 ≤ (jM3 : Int) - i) ∧ (lv < lvM3 ∧ lvM3 ≤ 50) := fun z => ⟨(yM3.2 z).2.1, (yM3.2 z).2.2.2.1⟩
  refine g_istore_n (pc' := 6) (i := 2) (L' := [(2, vi z2), (0, vr X 30), (1, vi b)]) dX2_readBoth_5 rfl rfl (by decide) rfl ?_
  refine g_iconst (pc' := 7) dX2_readBoth_6 rfl ?_
  refine g_istore_n (pc' := 8) (i := 3) (L' := [(3, vi 0), (2, vi z2), (0, vr X 30), (1, vi b)]) dX2_readBoth_7 rfl rfl (by decide) rfl ?_
  refine g_sub [1, 0, 2, 3] rfl ?_
  exact l_X2_readBoth_y_8 X M hi b hb K W m i hts hat him lv hlv hsl hb8 hsub _ z2 0 M3 iM3 fM3 q31_1_M3 q37_1_M3 (by omega) (by omega) jM3 lvM3 (by omega) (by omega) (by omega) tsM3 (fun z => by have y := (gM3.1 z).2.1; omega) (fun z => RTb.up (l := 2) (gM3.2 z)) (fun z => ⟨⟨(yM3.2 z).1, (yM3.2 z).2.1, (yM3.2 z).2.2.1, (yM3.2 z).2.2.2.1⟩, RTmQ.up (l := 2) (yM3.2 z).2.2.2.2⟩) rfl
set_option maxHeartbeats 4000000 in
set_option maxRecDepth 100000 in
theorem l_X2_readTest_y_8 (X : Cx) (M : Mm) (hi : IC M) (b : Int) (hb : inI b) (K W : Nat → Int) (m i : Nat) (hts : TS M K W m) (hat : M 31 7 = (i : Int)) (him : i ≤ m) (lv : Int) (hlv : M 30 2 = lv) (hsl : 0 ≤ M 37 4 ∧ M 37 4 ≤ (i : Int)) (hb8 : 0 ≤ b ∧ b ≤ 8) (hsub : ∀ (M : Mm) (_ : IC M) (i : Nat) (lv : Int), TS M K W m → M 31 7 = (i : Int) → i ≤ m → M 30 2 = lv → (0 ≤ M 37 4 ∧ M 37 4 ≤ (i : Int)) → Con X (15 + 3 * (8 - b).toNat) yX2_readBoth cX2_readBoth 5 (some .boolean) [vr X 30, vi b] M (Qi (fun r M1 => IC M1 ∧ Fr (fun c => c = 30 ∨ c = 31 ∨ c = 37 ∨ c = 39 ∨ c = 40) M M1 ∧ M1 31 1 = M 31 1 ∧ M1 37 1 = M 37 1 ∧ ((r = 0 ∨ r = 1) ∧ ∃ (j : Nat) (lv1 : Int), M1 31 7 = (j : Int) ∧ M1 30 2 = lv1 ∧ i ≤ j ∧ j ≤ m ∧ TY K W 2 b M M1 i lv r j lv1)))) : ∀ (kk : Nat) (re : Int) (n : Int) (M1 : Mm) (ic1 : IC M1) (fr1 : Fr (fun c => c = 30 ∨ c = 31 ∨ c = 37 ∨ c = 39 ∨ c = 40) M M1) (q31_1 : id (M1 31 1 = M 31 1)) (q37_1 : id (M1 37 1 = M 37 1)) (h2 : re = 0 ∨ re = 1) (h0 : 0 ≤ n ∧ n ≤ 400) (jx : Nat) (lx : Int) (at1 : M1 31 7 = (jx : Int)) (lv1 : M1 30 2 = lx) (ij : i ≤ jx ∧ jx ≤ m) (ts1 : TS M1 K W m) (nj : re = 1 → n + 1 ≤ jx) (hc0 : re = 0 → RTb K W 1 b i lv jx) (hc1 : re = 1 → (NT K W 2 jx ∧ (M 37 4 ≤ M1 37 4 ∧ M1 37 4 - M 37 4 ≤ (jx : Int) - i) ∧ CDS M M1 ∧ (lv < lx ∧ lx ≤ 50)) ∧ RTmQ (fun f => MC (M1 39) (M1 40) (M 37 4).toNat (M1 37 4).toNat (lx - lv) f ∧ T01 f) K W 1 b i lv jx lx), (400 - n).toNat = kk → G X (16 + 3 * (8 - b).toNat) RX2 cX2_readTest 5 (some .boolean) (Qi (fun r M1 => IC M1 ∧ Fr (fun c => c = 30 ∨ c = 31 ∨ c = 37 ∨ c = 39 ∨ c = 40) M M1 ∧ M1 31 1 = M 31 1 ∧ M1 37 1 = M 37 1 ∧ ((r = 0 ∨ r = 1) ∧ ∃ (j : Nat) (lv1 : Int), M1 31 7 = (j : Int) ∧ M1 30 2 = lv1 ∧ i ≤ j ∧ j ≤ m ∧ TY K W 1 b M M1 i lv r j lv1))) 8 [(2, vi re), (3, vi n), (0, vr X 30), (1, vi b)] [] M1 := by
  intro kk
  induction kk using Nat.strongRecOn with
  | ind kk ih =>
    intro re n M1 ic1 fr1 q31_1 q37_1 h2 h0 jx lx at1 lv1 ij ts1 nj hc0 hc1 hmes
    have hm4 := hts.m4
    have hmK : ∀ q : Nat, q ≤ m → K q ≠ 0 → q < m := fun q h1 h2 => hts.lt h1 h2
    have hmj := hmK jx ij.2
    refine g_iload_n (pc' := 9) 1 dX2_readTest_8 rfl rfl ?_
    refine g_sipush (pc' := 12) (v := 400) dX2_readTest_9 rfl (by decide) ?_
    refine g_ic_ge (pc' := 15) (tgt := 64) ⟨by omega, by omega⟩ (by decide) dX2_readTest_12 rfl rfl (fun c1 => ?_) (fun c1 => ?_)
    · refine g_iload_n (pc' := 65) 0 dX2_readTest_64 rfl rfl ?_
      refine g_zreturn dX2_readTest_65 (by omega) ?_
      exact ⟨ic1, fr1, q31_1, q37_1, by omega, jx, lx, by omega, by omega, by omega, by omega, ⟨fun y => hc0 y, fun y => ⟨⟨fun _ => (hc1 y).1.1.1 (by decide), fun _ => by omega⟩, by have := (hc1 y).1.2.1; omega, (hc1 y).1.2.2.1.tr (CDS.eq (by omega) rfl rfl), (hc1 y).1.2.2.2, (hc1 y).2.mp (fun f q => by rw [show M1 37 4 = M1 37 4 by omega]; exact q)⟩⟩⟩
    · refine g_iload_n (pc' := 16) 0 dX2_readTest_15 rfl rfl ?_
      refine g_if_eq (pc' := 19) (tgt := 64) ⟨by omega, by omega⟩ dX2_readTest_16 rfl rfl (fun c2 => ?_) (fun c2 => ?_)
      · refine g_iload_n (pc' := 65) 0 dX2_readTest_64 rfl rfl ?_
        refine g_zreturn dX2_readTest_65 (by omega) ?_
        exact ⟨ic1, fr1, q31_1, q37_1, by omega, jx, lx, by omega, by omega, by omega, by omega, ⟨fun y => hc0 y, fun y => ⟨⟨fun _ => (hc1 y).1.1.1 (by decide), fun _ => by omega⟩, by have := (hc1 y).1.2.1; omega, (hc1 y).1.2.2.1.tr (CDS.eq (by omega) rfl rfl), (hc1 y).1.2.2.2, (hc1 y).2.mp (fun f q => by rw [show M1 37 4 = M1 37 4 by omega]; exact q)⟩⟩⟩
      · refine g_aload_n (pc' := 20) 2 dX2_readTest_19 rfl rfl ?_
        refine g_getR (pc' := 23) dX2_readTest_20 rfl f_X2_12 rfl rfl ?_
        refine g_ldcS (pc' := 25) (j := 13) dX2_readTest_23 rfl rfl ?_
        refine g_callVi (pc' := 28) (As := [vs X 13]) (b := 31) (S := []) dX2_readTest_25 rfl m_X2_65 w_X8_takeWord (c_X8_takeWord_x X M1 ic1 13 (by decide) K W m jx ts1 at1 (by omega)) rfl ⟨_, _, _, rfl, rfl, rfl⟩ (by omega) (by decide) rfl (Nat.le_of_ble_eq_true rfl) (fun z4 M5 q3 => ?_)
        obtain ⟨iM5, fM50, eM5_31_1, pM5⟩ := q3
        have fM5 : Fr (fun c => c = 30 ∨ c = 31 ∨ c = 37 ∨ c = 39 ∨ c = 40) M M5 := Fr.tr fr1 fM50 fi_67
        have q31_1_M5 : id (M5 31 1 = M 31 1) := eM5_31_1.trans q31_1
        have q37_1_M5 : id (M5 37 1 = M 37 1) := (congrFun (fM50 37 (by first | decide | omega | (dsimp only; omega))) 1).trans q37_1
        have wM5_30_2 : M5 30 2 = M1 30 2 := (congrFun (fM50 30 (by first | decide | omega | (dsimp only; omega))) 2)
        have wM5_37_4 : M5 37 4 = M1 37 4 := (congrFun (fM50 37 (by first | decide | omega | (dsimp only; omega))) 4)
        clear eM5_31_1
        have tsM5 : TS M5 K W m := TS.fr ts1 fM50 (fun c h1 h2 => by first | omega | (dsimp only; omega))
        rw [cw_13] at pM5
        have k39M5 : M5 39 = M1 39 := (fM50 39 (by decide))
        have k40M5 : M5 40 = M1 40 := (fM50 40 (by decide))
        refine g_if_eq (pc' := 31) (tgt := 64) ⟨by omega, by omega⟩ dX2_readTest_28 rfl rfl (fun c6 => ?_) (fun c6 => ?_)
        · refine g_iload_n (pc' := 65) 0 dX2_readTest_64 rfl rfl ?_
          refine g_zreturn dX2_readTest_65 (by omega) ?_
          exact ⟨iM5, fM5, q31_1_M5, q37_1_M5, by omega, jx, lx, by omega, by omega, by omega, by omega, ⟨fun y => hc0 y, fun y => ⟨⟨fun _ => (hc1 y).1.1.1 (by decide), fun _ => by omega⟩, by have := (hc1 y).1.2.1; omega, (hc1 y).1.2.2.1.tr (CDS.eq (by omega) k39M5 k40M5), (hc1 y).1.2.2.2, (hc1 y).2.mp (fun f q => by rw [k39M5, k40M5, show M5 37 4 = M1 37 4 by omega]; exact q)⟩⟩⟩
        · have hcc := hc1 (by omega)
          have hcb := hcc.1.2.1
          have hcd := hcc.1.2.2.1
          have hcl := hcc.1.2.2.2
          have ro := hcc.2.or_ (show isWd K W jx 498 by omega)
          refine g_aload_n (pc' := 32) 2 dX2_readTest_31 rfl rfl ?_
          refine g_getR (pc' := 35) dX2_readTest_32 rfl f_X2_21 rfl rfl ?_
          refine g_bipush (pc' := 37) (v := 15) dX2_readTest_35 rfl (by decide) ?_
          refine g_iconst (pc' := 38) dX2_readTest_37 rfl ?_
          refine g_callVi (pc' := 41) (As := [vi 15, vi 0]) (b := 37) (S := []) dX2_readTest_38 rfl m_X2_129 w_X4_write (c_X4_write_y X M5 iM5 15 (by decide) 0 (by decide)) rfl ⟨_, _, _, rfl, rfl, rfl⟩ (by omega) (by decide) rfl (Nat.le_of_ble_eq_true rfl) (fun z8 M9 q7 => ?_)
          obtain ⟨iM9, fM90, eM9_37_1, pM9⟩ := q7
          have fM9 : Fr (fun c => c = 30 ∨ c = 31 ∨ c = 37 ∨ c = 39 ∨ c = 40) M M9 := Fr.tr fM5 fM90 fi_69
          have q31_1_M9 : id (M9 31 1 = M 31 1) := (congrFun (fM90 31 (by first | decide | omega | (dsimp only; omega))) 1).trans q31_1_M5
          have q37_1_M9 : id (M9 37 1 = M 37 1) := eM9_37_1.trans q37_1_M5
          have wM9_30_2 : M9 30 2 = M5 30 2 := (congrFun (fM90 30 (by first | decide | omega | (dsimp only; omega))) 2)
          have wM9_31_7 : M9 31 7 = M5 31 7 := (congrFun (fM90 31 (by first | decide | omega | (dsimp only; omega))) 7)
          clear eM9_37_1
          have tsM9 : TS M9 K W m := TS.fr tsM5 fM90 (fun c h1 h2 => by first | omega | (dsimp only; omega))
          obtain ⟨wrM9, wzM9, w9M9, w0M9⟩ := pM9.2 (by omega)
          clear pM9
          have k39M9 : M9 39 = ms (M1 39) (M5 37 4).toNat 15 := by rw [w9M9, k39M5]
          have k40M9 : M9 40 = ms (M1 40) (M5 37 4).toNat 0 := by rw [w0M9, k40M5]
          refine g_istore (pc' := 43) (L' := [(4, vi z8), (2, vi re), (3, vi n), (0, vr X 30), (1, vi b)]) dX2_readTest_41 rfl (by decide) rfl ?_
          refine g_aload_n (pc' := 44) 3 dX2_readTest_43 rfl rfl ?_
          refine g_iload_n (pc' := 45) 4 dX2_readTest_44 rfl rfl ?_
          refine g_callVi (pc' := 48) (As := [vi b]) (b := 30) (S := []) dX2_readTest_45 rfl m_X2_124 w_X2_readBoth (hsub M9 iM9 (jx + 1) lx tsM9 (by omega) (by omega) (by omega) (by omega)) rfl ⟨_, _, _, rfl, rfl, rfl⟩ (by omega) (by decide) rfl (Nat.le_of_ble_eq_true rfl) (fun z11 M12 q10 => ?_)
          obtain ⟨iM12, fM120, eM12_31_1, eM12_37_1, pM12⟩ := q10
          have fM12 : Fr (fun c => c = 30 ∨ c = 31 ∨ c = 37 ∨ c = 39 ∨ c = 40) M M12 := Fr.tr fM9 fM120 (fun _ z => z)
          have q31_1_M12 : id (M12 31 1 = M 31 1) := eM12_31_1.trans q31_1_M9
          have q37_1_M12 : id (M12 37 1 = M 37 1) := eM12_37_1.trans q37_1_M9
          clear eM12_31_1 eM12_37_1
          have tsM12 : TS M12 K W m := TS.fr tsM9 fM120 (fun c h1 h2 => by first | omega | (dsimp only; omega))
          obtain ⟨pzM12, jM12, lvM12, paM12, plM12, piM12, pmM12, yM12⟩ := pM12
          have gM12 := yM12.rs
          have ylM12 : z11 = 1 → (M9 37 4 ≤ M12 37 4 ∧ M12 37 4 - M9 37 4 ≤ (jM12 : Int) - (jx + 1)) ∧ (lx < lvM12 ∧ lvM12 ≤ 50) := fun z => ⟨(yM12.2 z).2.1, (yM12.2 z).2.2.2.1⟩
          refine g_istore_n (pc' := 49) (i := 2) (L' := [(2, vi z11), (4, vi z8), (3, vi n), (0, vr X 30), (1, vi b)]) dX2_readTest_48 rfl rfl (by decide) rfl ?_
          refine g_aload_n (pc' := 50) 3 dX2_readTest_49 rfl rfl ?_
          refine g_getR (pc' := 53) dX2_readTest_50 rfl f_X2_21 rfl rfl ?_
          refine g_iload (pc' := 55) 1 dX2_readTest_53 rfl rfl ?_
          refine g_callVv (pc' := 58) (As := [vi z8]) (b := 37) (S := []) dX2_readTest_55 rfl m_X2_132 w_X4_leadHere (c_X4_leadHere_y X M12 iM12 z8 ⟨by omega, by omega⟩) rfl ⟨_, _, _, rfl, rfl, rfl⟩ (by omega) (by decide) rfl (Nat.le_of_ble_eq_true rfl) (fun M14 q13 => ?_)
          obtain ⟨iM14, fM140, pM14⟩ := q13
          have fM14 : Fr (fun c => c = 30 ∨ c = 31 ∨ c = 37 ∨ c = 39 ∨ c = 40) M M14 := Fr.tr fM12 fM140 fi_70
          have q31_1_M14 : id (M14 31 1 = M 31 1) := (congrFun (fM140 31 (by first | decide | omega | (dsimp only; omega))) 1).trans q31_1_M12
          have q37_1_M14 : id (M14 37 1 = M 37 1) := (congrFun (fM140 37 (by first | decide | omega | (dsimp only; omega))) 1).trans q37_1_M12
          have wM14_30_2 : M14 30 2 = M12 30 2 := (congrFun (fM140 30 (by first | decide | omega | (dsimp only; omega))) 2)
          have wM14_31_7 : M14 31 7 = M12 31 7 := (congrFun (fM140 31 (by first | decide | omega | (dsimp only; omega))) 7)
          have wM14_37_4 : M14 37 4 = M12 37 4 := (congrFun (fM140 37 (by first | decide | omega | (dsimp only; omega))) 4)
          have tsM14 : TS M14 K W m := TS.fr tsM12 fM140 (fun c h1 h2 => by first | omega | (dsimp only; omega))
          refine g_iinc (pc' := 61) (L' := [(3, vi (n + 1)), (2, vi z11), (4, vi z8), (0, vr X 30), (1, vi b)]) 2 dX2_readTest_58 rfl rfl (by decide) rfl ?_
          refine g_goto (tgt := 8) dX2_readTest_61 rfl ?_
          refine g_sub [1, 0, 3, 4] rfl ?_
          exact ih _ (by omega) z11 (n + 1) M14 iM14 fM14 q31_1_M14 q37_1_M14 (by omega) (by omega) jM12 lvM12 (by omega) (by omega) (by omega) tsM14 (fun z => by have y := (gM12.1 z).2.1; have := nj (by omega); omega) (fun z => ro.q.no (l := 1) rfl (by decide) (gM12.2 z)) (fun z => by
              have yy := (yM12.2 z)
              have ya := ylM12 z
              have lq := pM14.2.2 (by omega)
              have hq : z8.toNat = (M1 37 4).toNat := by rw [show z8 = M1 37 4 by omega]
              rw [hq] at lq
              have k9 : M9 39 = ms (M1 39) (M1 37 4).toNat 15 := (k39M9.trans (by rw [show M5 37 4 = M1 37 4 by omega]))
              have k4 : M9 40 = ms (M1 40) (M1 37 4).toNat 0 := (k40M9.trans (by rw [show M5 37 4 = M1 37 4 by omega]))
              have cw : CDS M M9 := CDS.wr hcd (by omega) (by omega) k9 k4 rfl
              refine ⟨⟨yy.1, by omega, CDS.pat (cw.tr yy.2.2.1) (by omega) (by omega) pM14.2.1 lq (by omega), by omega⟩, ro.nx (l := 1) rfl (by decide) yy.2.2.2.2 (fun f k q1 q2 => ⟨MC.a2 (q := (M1 37 4).toNat) (e := (M14 37 4).toNat) (c := 15) q1.1 (by rw [show (M1 37 4).toNat + 1 = (M9 37 4).toNat by omega, show M14 37 4 = M12 37 4 by omega]; exact q2.1) k9 k4 yy.2.2.1 (by omega) pM14.2.1 lq (by omega) (by decide) (by omega), T01.ao q1.2 q2.2⟩)⟩) rfl
set_option maxHeartbeats 4000000 in
set_option maxRecDepth 100000 in
theorem c_X2_readTest_y (X : Cx) (M : Mm) (hi : IC M) (b : Int) (hb : inI b) (K W : Nat → Int) (m i : Nat) (hts : TS M K W m) (hat : M 31 7 = (i : Int)) (him : i ≤ m) (lv : Int) (hlv : M 30 2 = lv) (hsl : 0 ≤ M 37 4 ∧ M 37 4 ≤ (i : Int)) (hb8 : 0 ≤ b ∧ b ≤ 8) (hsub : ∀ (M : Mm) (_ : IC M) (i : Nat) (lv : Int), TS M K W m → M 31 7 = (i : Int) → i ≤ m → M 30 2 = lv → (0 ≤ M 37 4 ∧ M 37 4 ≤ (i : Int)) → Con X (15 + 3 * (8 - b).toNat) yX2_readBoth cX2_readBoth 5 (some .boolean) [vr X 30, vi b] M (Qi (fun r M1 => IC M1 ∧ Fr (fun c => c = 30 ∨ c = 31 ∨ c = 37 ∨ c = 39 ∨ c = 40) M M1 ∧ M1 31 1 = M 31 1 ∧ M1 37 1 = M 37 1 ∧ ((r = 0 ∨ r = 1) ∧ ∃ (j : Nat) (lv1 : Int), M1 31 7 = (j : Int) ∧ M1 30 2 = lv1 ∧ i ≤ j ∧ j ≤ m ∧ TY K W 2 b M M1 i lv r j lv1)))) : Con X (16 + 3 * (8 - b).toNat) yX2_readTest cX2_readTest 5 (some .boolean) [vr X 30, vi b] M (Qi (fun r M1 => IC M1 ∧ Fr (fun c => c = 30 ∨ c = 31 ∨ c = 37 ∨ c = 39 ∨ c = 40) M M1 ∧ M1 31 1 = M 31 1 ∧ M1 37 1 = M 37 1 ∧ ((r = 0 ∨ r = 1) ∧ ∃ (j : Nat) (lv1 : Int), M1 31 7 = (j : Int) ∧ M1 30 2 = lv1 ∧ i ≤ j ∧ j ≤ m ∧ TY K W 1 b M M1 i lv r j lv1))) := by
  refine Con.ofG rfl (Nat.le_of_ble_eq_true rfl) ?_
  show G X (16 + 3 * (8 - b).toNat) RX2 cX2_readTest 5 (some .boolean) (Qi (fun r M1 => IC M1 ∧ Fr (fun c => c = 30 ∨ c = 31 ∨ c = 37 ∨ c = 39 ∨ c = 40) M M1 ∧ M1 31 1 = M 31 1 ∧ M1 37 1 = M 37 1 ∧ ((r = 0 ∨ r = 1) ∧ ∃ (j : Nat) (lv1 : Int), M1 31 7 = (j : Int) ∧ M1 30 2 = lv1 ∧ i ≤ j ∧ j ≤ m ∧ TY K W 1 b M M1 i lv r j lv1))) 0 [(0, vr X 30), (1, vi b)] [] M
  have hm4 := hts.m4
  have hmK : ∀ q : Nat, q ≤ m → K q ≠ 0 → q < m := fun q h1 h2 => hts.lt h1 h2
  refine g_aload_n (pc' := 1) 0 dX2_readTest_0 rfl rfl ?_
  refine g_iload_n (pc' := 2) 1 dX2_readTest_1 rfl rfl ?_
  refine g_callVi (pc' := 5) (As := [vi b]) (b := 30) (S := []) dX2_readTest_2 rfl m_X2_124 w_X2_readBoth (hsub M hi i lv hts hat him hlv (by omega)) rfl ⟨_, _, _, rfl, rfl, rfl⟩ (by omega) (by decide) rfl (Nat.le_of_ble_eq_true rfl) (fun z2 M3 q1 => ?_)
  obtain ⟨iM3, fM30, eM3_31_1, eM3_37_1, pM3⟩ := q1
  have fM3 : Fr (fun c => c = 30 ∨ c = 31 ∨ c = 37 ∨ c = 39 ∨ c = 40) M M3 := Fr.tr Fr.rf fM30 (fun _ z => z)
  have q31_1_M3 : id (M3 31 1 = M 31 1) := eM3_31_1
  have q37_1_M3 : id (M3 37 1 = M 37 1) := eM3_37_1
  clear eM3_31_1 eM3_37_1
  have tsM3 : TS M3 K W m := TS.fr hts fM30 (fun c h1 h2 => by first | omega | (dsimp only; omega))
  obtain ⟨pzM3, jM3, lvM3, paM3, plM3, piM3, pmM3, yM3⟩ := pM3
  have gM3 := yM3.rs
  have ylM3 : z2 = 1 → (M 37 4 ≤ M3 37 4 ∧ M3 37 4 - M 37 4 ≤ (jM3 : Int) - i) ∧ (lv < lvM3 ∧ lvM3 ≤ 50) := fun z => ⟨(yM3.2 z).2.1, (yM3.2 z).2.2.2.1⟩
  refine g_istore_n (pc' := 6) (i := 2) (L' := [(2, vi z2), (0, vr X 30), (1, vi b)]) dX2_readTest_5 rfl rfl (by decide) rfl ?_
  refine g_iconst (pc' := 7) dX2_readTest_6 rfl ?_
  refine g_istore_n (pc' := 8) (i := 3) (L' := [(3, vi 0), (2, vi z2), (0, vr X 30), (1, vi b)]) dX2_readTest_7 rfl rfl (by decide) rfl ?_
  refine g_sub [1, 0, 2, 3] rfl ?_
  exact l_X2_readTest_y_8 X M hi b hb K W m i hts hat him lv hlv hsl hb8 hsub _ z2 0 M3 iM3 fM3 q31_1_M3 q37_1_M3 (by omega) (by omega) jM3 lvM3 (by omega) (by omega) (by omega) tsM3 (fun z => by have y := (gM3.1 z).2.1; omega) (fun z => RTb.up (l := 1) (gM3.2 z)) (fun z => ⟨⟨(yM3.2 z).1, (yM3.2 z).2.1, (yM3.2 z).2.2.1, (yM3.2 z).2.2.2.1⟩, RTmQ.up (l := 1) (yM3.2 z).2.2.2.2⟩) rfl
theorem r_readTest_y (X : Cx) (K W : Nat → Int) (m : Nat) : ∀ (k : Nat) (b : Int), 0 ≤ b → b ≤ 8 → (8 - b).toNat = k → ∀ (M : Mm) (_ : IC M) (i : Nat) (lv : Int), TS M K W m → M 31 7 = (i : Int) → i ≤ m → M 30 2 = lv → (0 ≤ M 37 4 ∧ M 37 4 ≤ (i : Int)) → Con X (16 + 3 * (8 - b).toNat) yX2_readTest cX2_readTest 5 (some .boolean) [vr X 30, vi b] M (Qi (fun r M1 => IC M1 ∧ Fr (fun c => c = 30 ∨ c = 31 ∨ c = 37 ∨ c = 39 ∨ c = 40) M M1 ∧ M1 31 1 = M 31 1 ∧ M1 37 1 = M 37 1 ∧ ((r = 0 ∨ r = 1) ∧ ∃ (j : Nat) (lv1 : Int), M1 31 7 = (j : Int) ∧ M1 30 2 = lv1 ∧ i ≤ j ∧ j ≤ m ∧ TY K W 1 b M M1 i lv r j lv1))) := by
  intro k
  induction k using Nat.strongRecOn with
  | ind k ih =>
    intro b h0 h8 hk M hi i lv hts hat him hlv hsl
    have hb : inI b := ⟨by omega, by omega⟩
    exact c_X2_readTest_y X M hi b hb K W m i hts hat him lv hlv hsl ⟨h0, h8⟩ (fun M hi i lv hts hat him hlv hsl => c_X2_readBoth_y X M hi b hb K W m i hts hat him lv hlv hsl ⟨h0, h8⟩ (fun M hi i lv hts hat him hlv hsl => c_X2_readPlain_y X M hi b hb K W m i hts hat him lv hlv hsl ⟨h0, h8⟩ (fun M hi i lv hts hat him hlv hsl hlt => ih _ (by omega) (b + 1) (by omega) (by omega) rfl M hi i lv hts hat him hlv hsl)))
