set_option maxHeartbeats 4000000 in
set_option maxRecDepth 100000 in
theorem c_X9_nextDraw_x (X : Cx) (M : Mm) (a : Int) (ha : inI a) (pa : 0 ≤ a ∧ a ≤ 1000003) : Con X 0 yX9_nextDraw cX9_nextDraw 1 (some .int) [vi a] M (Qi (fun r M1 => M1 = M ∧ (r = ndr a))) := by
  refine Con.ofG rfl (Nat.le_of_ble_eq_true rfl) ?_
  show G X 0 RX9 cX9_nextDraw 1 (some .int) (Qi (fun r M1 => M1 = M ∧ (r = ndr a))) 0 [(0, vi a)] [] M
  refine g_iload_n (pc' := 1) 0 dX9_nextDraw_0 rfl rfl ?_
  refine g_i2l (pc' := 2) ha dX9_nextDraw_1 rfl ?_
  refine g_ldc2 (pc' := 5) (v := 1103) dX9_nextDraw_2 rfl k_X9_280 ?_
  refine g_lmul (pc' := 6) dX9_nextDraw_5 rfl ?_
  refine g_ldc2 (pc' := 9) (v := 12345) dX9_nextDraw_6 rfl k_X9_282 ?_
  refine g_ladd (pc' := 10) dX9_nextDraw_9 rfl ?_
  refine g_ldc2 (pc' := 13) (v := 1000003) dX9_nextDraw_10 rfl k_X9_284 ?_
  refine g_lrem (pc' := 14) ⟨by omega, by omega⟩ (by decide) (by omega) dX9_nextDraw_13 rfl ?_
  refine g_l2i (pc' := 15) dX9_nextDraw_14 rfl ?_
  refine g_ireturn dX9_nextDraw_15 ?_
  refine ⟨rfl, ?_⟩
  rw [Int.tmod_eq_emod_of_nonneg (by omega)]
  rfl
set_option maxHeartbeats 4000000 in
set_option maxRecDepth 100000 in
theorem l_X9_passNight_x_70 (X : Cx) (M : Mm) (hi : IC M) (a : Int) (ha : inI a) (b : Int) (hb : inI b) (ta tb : Nat) (n : Int) (P : Nat → Int) (L : Int) (F Z m z : Nat → Int) (tv : TV M 2 ta tb n P L F Z) (pub : PUB n P L F Z m z) (hz6 : ∀ j : Nat, j < 6 → z j ≤ 60) (hW : ∀ j : Nat, (j : Int) < M 1 2 → 1 ≤ M 7 j ∧ M 7 j ≤ 60) : ∀ (kk : Nat) (g : Int) (mv : Int) (sd : Int) (i : Int) (M1 : Mm) (ic1 : IC M1) (fr1 : Fr (fun c => 91 ≤ c ∧ c ≤ 95) M M1) (q2_5 : id (M1 2 5 = M 2 5)) (q1_2 : id (M1 1 2 = M 1 2)) (q1_4 : id (M1 1 4 = M 1 4)) (q1_6 : id (M1 1 6 = M 1 6)) (q11_5 : id (M1 11 5 = M 11 5)) (q10_2 : id (M1 10 2 = M 10 2)) (q10_4 : id (M1 10 4 = M 10 4)) (q10_6 : id (M1 10 6 = M 10 6)) (q20_5 : id (M1 20 5 = M 20 5)) (q19_2 : id (M1 19 2 = M 19 2)) (q19_4 : id (M1 19 4 = M 19 4)) (q19_6 : id (M1 19 6 = M 19 6)) (q29_0 : id (M1 29 0 = M 29 0)) (q29_1 : id (M1 29 1 = M 29 1)) (q31_1 : id (M1 31 1 = M 31 1)) (q0_11 : id (M1 0 11 = M 0 11)) (q0_12 : id (M1 0 12 = M 0 12)) (q0_13 : id (M1 0 13 = M 0 13)) (q0_10 : id (M1 0 10 = M 0 10)) (hgn : g = n) (hg0 : 1 ≤ n ∧ 1 ≤ M 1 2) (hsb : 0 ≤ sd ∧ sd ≤ 1000003) (h0 : 0 ≤ i) (h1 : i ≤ b) (hb2 : (0 ≤ a ∧ a ≤ 1000000) ∧ (1 ≤ b ∧ b ≤ 20)) (hsd : sd = ntD a (3 * i.toNat)) (hmv : mv = ntC z (M 7) m n (M 1 2) a i.toNat) (a1 : Nat) (b1 : Nat) (P1 : Nat → Int) (L1 : Int) (F1 : Nat → Int) (Z1 : Nat → Int) (tv1 : TV M1 91 a1 b1 n P1 L1 F1 Z1) (pp1 : PAP n P1 L1 F1 Z1 (ntM z (M 7) m n (M 1 2) a i.toNat) z), (20 - i).toNat = kk → G X 4 RX9 cX9_passNight 10 (some .int) (Qi (fun r M1 => IC M1 ∧ Fr (fun c => 91 ≤ c ∧ c ≤ 95) M M1 ∧ M1 2 5 = M 2 5 ∧ M1 1 2 = M 1 2 ∧ M1 1 4 = M 1 4 ∧ M1 1 6 = M 1 6 ∧ M1 11 5 = M 11 5 ∧ M1 10 2 = M 10 2 ∧ M1 10 4 = M 10 4 ∧ M1 10 6 = M 10 6 ∧ M1 20 5 = M 20 5 ∧ M1 19 2 = M 19 2 ∧ M1 19 4 = M 19 4 ∧ M1 19 6 = M 19 6 ∧ M1 29 0 = M 29 0 ∧ M1 29 1 = M 29 1 ∧ M1 31 1 = M 31 1 ∧ M1 0 11 = M 0 11 ∧ M1 0 12 = M 0 12 ∧ M1 0 13 = M 0 13 ∧ M1 0 10 = M 0 10 ∧ ((-6 ≤ r ∧ r ≤ 60) ∧ (¬ ((0 ≤ a ∧ a ≤ 1000000) ∧ (1 ≤ b ∧ b ≤ 20)) → r = -1 ∧ (∀ c : Nat, 91 ≤ c → c ≤ 95 → M1 c = M c)) ∧ (((0 ≤ a ∧ a ≤ 1000000) ∧ (1 ≤ b ∧ b ≤ 20)) → r = ntC z (M 7) m n (M 1 2) a (ntK n (M 1 2) b) ∧ PQ_ M1 91 n (ntM z (M 7) m n (M 1 2) a (ntK n (M 1 2) b)) z)))) 70 [(3, vi g), (4, vi mv), (5, vi sd), (6, vi i), (0, vr X 0), (2, vi b)] [] M1 := by
  intro kk
  induction kk using Nat.strongRecOn with
  | ind kk ih =>
    intro g mv sd i M1 ic1 fr1 q2_5 q1_2 q1_4 q1_6 q11_5 q10_2 q10_4 q10_6 q20_5 q19_2 q19_4 q19_6 q29_0 q29_1 q31_1 q0_11 q0_12 q0_13 q0_10 hgn hg0 hsb h0 h1 hb2 hsd hmv a1 b1 P1 L1 F1 Z1 tv1 pp1 hmes
    have tn := tv.2.2.1
    have ctn := pub.1.1
    have hsc := hi.2.1.1.1
    have tn1 := tv1.2.2.1
    have cb := ntC_b (z := z) (W := M 7) (m := m) (n := n) (c := M 1 2) (s := a) i.toNat
    refine g_iload (pc' := 72) 3 dX9_passNight_70 rfl rfl ?_
    refine g_iload_n (pc' := 73) 5 dX9_passNight_72 rfl rfl ?_
    refine g_ic_ge (pc' := 76) (tgt := 154) ⟨by omega, by omega⟩ hb dX9_passNight_73 rfl rfl (fun c1 => ?_) (fun c1 => ?_)
    · refine g_iload (pc' := 156) 1 dX9_passNight_154 rfl rfl ?_
      refine g_ireturn dX9_passNight_156 ?_
      exact ⟨ic1, fr1, q2_5, q1_2, q1_4, q1_6, q11_5, q10_2, q10_4, q10_6, q20_5, q19_2, q19_4, q19_6, q29_0, q29_1, q31_1, q0_11, q0_12, q0_13, q0_10, by omega, fun q => absurd (by omega) q, fun _ => by rw [ntK_b (by omega), show b.toNat = i.toNat by omega]; exact ⟨hmv, ⟨a1, b1, P1, L1, F1, Z1, tv1, pp1⟩⟩⟩
    · refine g_iload (pc' := 78) 2 dX9_passNight_76 rfl rfl ?_
      refine g_callSip (pc' := 81) (As := [vi sd]) (S := []) dX9_passNight_78 rfl m_X9_277 w_X9_nextDraw (c_X9_nextDraw_x X M1 sd ⟨by omega, by omega⟩ ⟨by omega, by omega⟩) rfl (by decide) (by decide) rfl (Nat.le_of_ble_eq_true rfl) (fun z3 q2 => ?_)
      have nd1 : z3 = ntD a (3 * i.toNat + 1) := by rw [q2, hsd]; rfl
      have nb1 := ndr_b sd
      rw [← q2] at nb1
      refine g_istore (pc' := 83) (L' := [(5, vi z3), (3, vi g), (4, vi mv), (6, vi i), (0, vr X 0), (2, vi b)]) dX9_passNight_81 rfl (by decide) rfl ?_
      refine g_iload (pc' := 85) 0 dX9_passNight_83 rfl rfl ?_
      refine g_iload_n (pc' := 86) 1 dX9_passNight_85 rfl rfl ?_
      refine g_iremP (pc' := 87) ⟨by omega, by omega⟩ ⟨by omega, by omega⟩ (by omega) (by omega) dX9_passNight_86 rfl ?_
      have fd1 : z3 % g = ntD a (3 * i.toNat + 1) % g := by rw [nd1]
      have mm1 := Int.emod_nonneg z3 (show g ≠ 0 by omega)
      have mm2 := Int.emod_lt_of_pos z3 (show 0 < g by omega)
      refine g_istore (pc' := 89) (L' := [(7, vi (z3 % g)), (5, vi z3), (3, vi g), (4, vi mv), (6, vi i), (0, vr X 0), (2, vi b)]) dX9_passNight_87 rfl (by decide) rfl ?_
      refine g_iload (pc' := 91) 1 dX9_passNight_89 rfl rfl ?_
      refine g_callSip (pc' := 94) (As := [vi z3]) (S := []) dX9_passNight_91 rfl m_X9_277 w_X9_nextDraw (c_X9_nextDraw_x X M1 z3 ⟨by omega, by omega⟩ ⟨by omega, by omega⟩) rfl (by decide) (by decide) rfl (Nat.le_of_ble_eq_true rfl) (fun z5 q4 => ?_)
      have nd2 : z5 = ntD a (3 * i.toNat + 2) := by rw [q4, nd1]; rfl
      have nb2 := ndr_b z3
      rw [← q4] at nb2
      refine g_istore (pc' := 96) (L' := [(5, vi z5), (7, vi (z3 % g)), (3, vi g), (4, vi mv), (6, vi i), (0, vr X 0), (2, vi b)]) dX9_passNight_94 rfl (by decide) rfl ?_
      refine g_iload (pc' := 98) 0 dX9_passNight_96 rfl rfl ?_
      refine g_iload_n (pc' := 99) 2 dX9_passNight_98 rfl rfl ?_
      refine g_iremP (pc' := 100) ⟨by omega, by omega⟩ ⟨by omega, by omega⟩ (by omega) (by omega) dX9_passNight_99 rfl ?_
      have fd2 : z5 % g = ntD a (3 * i.toNat + 2) % g := by rw [nd2]
      have mm3 := Int.emod_nonneg z5 (show g ≠ 0 by omega)
      have mm4 := Int.emod_lt_of_pos z5 (show 0 < g by omega)
      refine g_istore (pc' := 102) (L' := [(8, vi (z5 % g)), (5, vi z5), (7, vi (z3 % g)), (3, vi g), (4, vi mv), (6, vi i), (0, vr X 0), (2, vi b)]) dX9_passNight_100 rfl (by decide) rfl ?_
      refine g_iload (pc' := 104) 1 dX9_passNight_102 rfl rfl ?_
      refine g_callSip (pc' := 107) (As := [vi z5]) (S := []) dX9_passNight_104 rfl m_X9_277 w_X9_nextDraw (c_X9_nextDraw_x X M1 z5 ⟨by omega, by omega⟩ ⟨by omega, by omega⟩) rfl (by decide) (by decide) rfl (Nat.le_of_ble_eq_true rfl) (fun z7 q6 => ?_)
      have nd3 : z7 = ntD a (3 * i.toNat + 3) := by rw [q6, nd2]; rfl
      have nb3 := ndr_b z5
      rw [← q6] at nb3
      refine g_istore (pc' := 109) (L' := [(5, vi z7), (8, vi (z5 % g)), (7, vi (z3 % g)), (3, vi g), (4, vi mv), (6, vi i), (0, vr X 0), (2, vi b)]) dX9_passNight_107 rfl (by decide) rfl ?_
      refine g_aload_n (pc' := 110) 6 dX9_passNight_109 rfl rfl ?_
      refine g_getR (pc' := 113) dX9_passNight_110 rfl f_X9_12 rfl rfl ?_
      refine g_getR (pc' := 116) dX9_passNight_113 rfl f_X9_210 rfl rfl ?_
      refine g_iload (pc' := 118) 0 dX9_passNight_116 rfl rfl ?_
      refine g_aload_n (pc' := 119) 6 dX9_passNight_118 rfl rfl ?_
      refine g_getR (pc' := 122) dX9_passNight_119 rfl f_X9_12 rfl rfl ?_
      refine g_getI (pc' := 125) dX9_passNight_122 rfl f_X9_207 rfl rfl (fun v8 ev8 rv8 => ?_)
      have bv8 : 0 ≤ v8 ∧ v8 ≤ 3 := by rw [ev8]; exact ic1.2.1.1.1
      have av8 : v8 = M 1 2 := ev8.trans q1_2
      refine g_iremP (pc' := 126) ⟨by omega, by omega⟩ rv8 (by omega) (by omega) dX9_passNight_125 rfl ?_
      have mm5 := Int.emod_nonneg z7 (show v8 ≠ 0 by omega)
      have mm6 := Int.emod_lt_of_pos z7 (show 0 < v8 by omega)
      refine g_iald (pc' := 127) dX9_passNight_126 rfl rfl (by omega) (by omega) (fun v9 ev9 rv9 => ?_)
      have kwv9 : v9 = M 7 (z7 % v8).toNat := by rw [ev9, fr1 7 (by decide)]
      have wq : v9 = M 7 (ntD a (3 * i.toNat + 3) % M 1 2).toNat := by rw [kwv9, nd3, show v8 = M 1 2 by omega]
      have wb := hW (z7 % v8).toNat (by omega)
      rw [← kwv9] at wb
      refine g_istore (pc' := 129) (L' := [(9, vi v9), (5, vi z7), (8, vi (z5 % g)), (7, vi (z3 % g)), (3, vi g), (4, vi mv), (6, vi i), (0, vr X 0), (2, vi b)]) dX9_passNight_127 rfl (by decide) rfl ?_
      refine g_aload_n (pc' := 130) 7 dX9_passNight_129 rfl rfl ?_
      refine g_getR (pc' := 133) dX9_passNight_130 rfl f_X9_60 rfl rfl ?_
      refine g_iload (pc' := 135) 3 dX9_passNight_133 rfl rfl ?_
      refine g_iload (pc' := 137) 2 dX9_passNight_135 rfl rfl ?_
      refine g_iload (pc' := 139) 0 dX9_passNight_137 rfl rfl ?_
      refine g_callVi (pc' := 142) (As := [vi (z3 % g), vi (z5 % g), vi v9]) (b := 91) (S := []) dX9_passNight_139 rfl m_X9_128 w_X7_carry (c_X7_carry_x X M1 91 isT_91 (ic1.1 _ isT_91) (z3 % g) ⟨by omega, by omega⟩ (z5 % g) ⟨by omega, by omega⟩ v9 rv9 a1 b1 n P1 L1 F1 Z1 tv1 pp1.ct) rfl ⟨_, _, _, rfl, rfl, rfl⟩ (by decide) (by decide) rfl (Nat.le_of_ble_eq_true rfl) (fun z11 M12 q10 => ?_)
      obtain ⟨kM12, fM120, gM120, pM12⟩ := q10
      have iM12 : IC M12 := IC.ofT ic1 isT_91 fM120 kM12
      have fM12 : Fr (fun c => 91 ≤ c ∧ c ≤ 95) M M12 := Fr.tr fr1 fM120 (fun c z => by unfold inT at z; first | omega | (dsimp only; omega))
      have q2_5_M12 : id (M12 2 5 = M 2 5) := (congrFun (fM120 2 (by unfold inT; first | decide | omega)) 5).trans q2_5
      have q1_2_M12 : id (M12 1 2 = M 1 2) := (congrFun (fM120 1 (by unfold inT; first | decide | omega)) 2).trans q1_2
      have q1_4_M12 : id (M12 1 4 = M 1 4) := (congrFun (fM120 1 (by unfold inT; first | decide | omega)) 4).trans q1_4
      have q1_6_M12 : id (M12 1 6 = M 1 6) := (congrFun (fM120 1 (by unfold inT; first | decide | omega)) 6).trans q1_6
      have q11_5_M12 : id (M12 11 5 = M 11 5) := (congrFun (fM120 11 (by unfold inT; first | decide | omega)) 5).trans q11_5
      have q10_2_M12 : id (M12 10 2 = M 10 2) := (congrFun (fM120 10 (by unfold inT; first | decide | omega)) 2).trans q10_2
      have q10_4_M12 : id (M12 10 4 = M 10 4) := (congrFun (fM120 10 (by unfold inT; first | decide | omega)) 4).trans q10_4
      have q10_6_M12 : id (M12 10 6 = M 10 6) := (congrFun (fM120 10 (by unfold inT; first | decide | omega)) 6).trans q10_6
      have q20_5_M12 : id (M12 20 5 = M 20 5) := (congrFun (fM120 20 (by unfold inT; first | decide | omega)) 5).trans q20_5
      have q19_2_M12 : id (M12 19 2 = M 19 2) := (congrFun (fM120 19 (by unfold inT; first | decide | omega)) 2).trans q19_2
      have q19_4_M12 : id (M12 19 4 = M 19 4) := (congrFun (fM120 19 (by unfold inT; first | decide | omega)) 4).trans q19_4
      have q19_6_M12 : id (M12 19 6 = M 19 6) := (congrFun (fM120 19 (by unfold inT; first | decide | omega)) 6).trans q19_6
      have q29_0_M12 : id (M12 29 0 = M 29 0) := (congrFun (fM120 29 (by unfold inT; first | decide | omega)) 0).trans q29_0
      have q29_1_M12 : id (M12 29 1 = M 29 1) := (congrFun (fM120 29 (by unfold inT; first | decide | omega)) 1).trans q29_1
      have q31_1_M12 : id (M12 31 1 = M 31 1) := (congrFun (fM120 31 (by unfold inT; first | decide | omega)) 1).trans q31_1
      have q0_11_M12 : id (M12 0 11 = M 0 11) := (congrFun (fM120 0 (by unfold inT; first | decide | omega)) 11).trans q0_11
      have q0_12_M12 : id (M12 0 12 = M 0 12) := (congrFun (fM120 0 (by unfold inT; first | decide | omega)) 12).trans q0_12
      have q0_13_M12 : id (M12 0 13 = M 0 13) := (congrFun (fM120 0 (by unfold inT; first | decide | omega)) 13).trans q0_13
      have q0_10_M12 : id (M12 0 10 = M 0 10) := (congrFun (fM120 0 (by unfold inT; first | decide | omega)) 10).trans q0_10
      obtain ⟨aM12, bM12, PM12, LM12, FM12, tvM12, crM12⟩ := pM12
      have tnM12 := tvM12.2.2.1
      have rrM12 := crM12.r
      obtain ⟨ppM12, rcM12⟩ := NT.st (i := i.toNat) pp1 hz6 (show z3 % g = _ by rw [fd1, hgn]) (show z5 % g = _ by rw [fd2, hgn]) (show v9 = _ from wq) (by omega) (by omega) (by omega) crM12
      rw [show i.toNat + 1 = (i + 1).toNat by omega] at ppM12 rcM12
      refine g_if_ne (pc' := 145) (tgt := 148) ⟨by omega, by omega⟩ dX9_passNight_142 rfl rfl (fun c13 => ?_) (fun c13 => ?_)
      · refine g_iinc (pc' := 151) (L' := [(6, vi (i + 1)), (9, vi v9), (5, vi z7), (8, vi (z5 % g)), (7, vi (z3 % g)), (3, vi g), (4, vi mv), (0, vr X 0), (2, vi b)]) 6 dX9_passNight_148 rfl rfl (by decide) rfl ?_
        refine g_goto (tgt := 70) dX9_passNight_151 rfl ?_
        refine g_sub [5, 6, 2, 0, 7, 8] rfl ?_
        exact ih _ (by omega) g mv z7 (i + 1) M12 iM12 fM12 q2_5_M12 q1_2_M12 q1_4_M12 q1_6_M12 q11_5_M12 q10_2_M12 q10_4_M12 q10_6_M12 q20_5_M12 q19_2_M12 q19_4_M12 q19_6_M12 q29_0_M12 q29_1_M12 q31_1_M12 q0_11_M12 q0_12_M12 q0_13_M12 q0_10_M12 (by omega) (by omega) (by omega) (by omega) (by omega) (by omega) (by rw [show 3 * (i + 1).toNat = 3 * i.toNat + 3 by omega]; exact nd3) (by omega) aM12 bM12 PM12 LM12 FM12 Z1 tvM12 ppM12 rfl
      · refine g_iinc (pc' := 148) (L' := [(4, vi (mv + 1)), (9, vi v9), (5, vi z7), (8, vi (z5 % g)), (7, vi (z3 % g)), (3, vi g), (6, vi i), (0, vr X 0), (2, vi b)]) 5 dX9_passNight_145 rfl rfl (by decide) rfl ?_
        refine g_iinc (pc' := 151) (L' := [(6, vi (i + 1)), (4, vi (mv + 1)), (9, vi v9), (5, vi z7), (8, vi (z5 % g)), (7, vi (z3 % g)), (3, vi g), (0, vr X 0), (2, vi b)]) 6 dX9_passNight_148 rfl rfl (by decide) rfl ?_
        refine g_goto (tgt := 70) dX9_passNight_151 rfl ?_
        refine g_sub [6, 1, 3, 0, 7, 8] rfl ?_
        exact ih _ (by omega) g (mv + 1) z7 (i + 1) M12 iM12 fM12 q2_5_M12 q1_2_M12 q1_4_M12 q1_6_M12 q11_5_M12 q10_2_M12 q10_4_M12 q10_6_M12 q20_5_M12 q19_2_M12 q19_4_M12 q19_6_M12 q29_0_M12 q29_1_M12 q31_1_M12 q0_11_M12 q0_12_M12 q0_13_M12 q0_10_M12 (by omega) (by omega) (by omega) (by omega) (by omega) (by omega) (by rw [show 3 * (i + 1).toNat = 3 * i.toNat + 3 by omega]; exact nd3) (by omega) aM12 bM12 PM12 LM12 FM12 Z1 tvM12 ppM12 rfl
set_option maxHeartbeats 4000000 in
set_option maxRecDepth 100000 in
theorem c_X9_passNight_x (X : Cx) (M : Mm) (hi : IC M) (a : Int) (ha : inI a) (b : Int) (hb : inI b) (ta tb : Nat) (n : Int) (P : Nat → Int) (L : Int) (F Z m z : Nat → Int) (tv : TV M 2 ta tb n P L F Z) (pub : PUB n P L F Z m z) (hz6 : ∀ j : Nat, j < 6 → z j ≤ 60) (hW : ∀ j : Nat, (j : Int) < M 1 2 → 1 ≤ M 7 j ∧ M 7 j ≤ 60) : Con X 4 yX9_passNight cX9_passNight 10 (some .int) [vr X 0, vi a, vi b] M (Qi (fun r M1 => IC M1 ∧ Fr (fun c => 91 ≤ c ∧ c ≤ 95) M M1 ∧ M1 2 5 = M 2 5 ∧ M1 1 2 = M 1 2 ∧ M1 1 4 = M 1 4 ∧ M1 1 6 = M 1 6 ∧ M1 11 5 = M 11 5 ∧ M1 10 2 = M 10 2 ∧ M1 10 4 = M 10 4 ∧ M1 10 6 = M 10 6 ∧ M1 20 5 = M 20 5 ∧ M1 19 2 = M 19 2 ∧ M1 19 4 = M 19 4 ∧ M1 19 6 = M 19 6 ∧ M1 29 0 = M 29 0 ∧ M1 29 1 = M 29 1 ∧ M1 31 1 = M 31 1 ∧ M1 0 11 = M 0 11 ∧ M1 0 12 = M 0 12 ∧ M1 0 13 = M 0 13 ∧ M1 0 10 = M 0 10 ∧ ((-6 ≤ r ∧ r ≤ 60) ∧ (¬ ((0 ≤ a ∧ a ≤ 1000000) ∧ (1 ≤ b ∧ b ≤ 20)) → r = -1 ∧ (∀ c : Nat, 91 ≤ c → c ≤ 95 → M1 c = M c)) ∧ (((0 ≤ a ∧ a ≤ 1000000) ∧ (1 ≤ b ∧ b ≤ 20)) → r = ntC z (M 7) m n (M 1 2) a (ntK n (M 1 2) b) ∧ PQ_ M1 91 n (ntM z (M 7) m n (M 1 2) a (ntK n (M 1 2) b)) z)))) := by
  refine Con.ofG rfl (Nat.le_of_ble_eq_true rfl) ?_
  show G X 4 RX9 cX9_passNight 10 (some .int) (Qi (fun r M1 => IC M1 ∧ Fr (fun c => 91 ≤ c ∧ c ≤ 95) M M1 ∧ M1 2 5 = M 2 5 ∧ M1 1 2 = M 1 2 ∧ M1 1 4 = M 1 4 ∧ M1 1 6 = M 1 6 ∧ M1 11 5 = M 11 5 ∧ M1 10 2 = M 10 2 ∧ M1 10 4 = M 10 4 ∧ M1 10 6 = M 10 6 ∧ M1 20 5 = M 20 5 ∧ M1 19 2 = M 19 2 ∧ M1 19 4 = M 19 4 ∧ M1 19 6 = M 19 6 ∧ M1 29 0 = M 29 0 ∧ M1 29 1 = M 29 1 ∧ M1 31 1 = M 31 1 ∧ M1 0 11 = M 0 11 ∧ M1 0 12 = M 0 12 ∧ M1 0 13 = M 0 13 ∧ M1 0 10 = M 0 10 ∧ ((-6 ≤ r ∧ r ≤ 60) ∧ (¬ ((0 ≤ a ∧ a ≤ 1000000) ∧ (1 ≤ b ∧ b ≤ 20)) → r = -1 ∧ (∀ c : Nat, 91 ≤ c → c ≤ 95 → M1 c = M c)) ∧ (((0 ≤ a ∧ a ≤ 1000000) ∧ (1 ≤ b ∧ b ≤ 20)) → r = ntC z (M 7) m n (M 1 2) a (ntK n (M 1 2) b) ∧ PQ_ M1 91 n (ntM z (M 7) m n (M 1 2) a (ntK n (M 1 2) b)) z)))) 0 [(0, vr X 0), (1, vi a), (2, vi b)] [] M
  have tn := tv.2.2.1
  have ctn := pub.1.1
  have hsc := hi.2.1.1.1
  refine g_iload_n (pc' := 1) 1 dX9_passNight_0 rfl rfl ?_
  refine g_iconst (pc' := 2) dX9_passNight_1 rfl ?_
  refine g_ldcw (pc' := 5) (v := 1000000) dX9_passNight_2 rfl k_X9_269 ?_
  refine g_callSip (pc' := 8) (As := [vi a, vi 0, vi 1000000]) (S := []) dX9_passNight_5 rfl m_X9_191 w_X9_isWithin (c_X9_isWithin X M a ha 0 (by decide) 1000000 (by decide)) rfl (by decide) (by decide) rfl (Nat.le_of_ble_eq_true rfl) (fun z2 q1 => ?_)
  refine g_if_eq (pc' := 11) (tgt := 21) ⟨by omega, by omega⟩ dX9_passNight_8 rfl rfl (fun c3 => ?_) (fun c3 => ?_)
  · replace q1 := q1.resolve_left (fun h => absurd (c3.symm.trans h.1) (by decide))
    refine g_iconst (pc' := 22) dX9_passNight_21 rfl ?_
    refine g_ireturn dX9_passNight_22 ?_
    exact ⟨hi, Fr.rf, rfl, rfl, rfl, rfl, rfl, rfl, rfl, rfl, rfl, rfl, rfl, rfl, rfl, rfl, rfl, rfl, rfl, rfl, rfl, by omega, fun _ => ⟨rfl, fun _ _ _ => rfl⟩, fun q => absurd q (by omega)⟩
  · replace q1 := q1.resolve_right (fun h => c3 h.1)
    refine g_iload_n (pc' := 12) 2 dX9_passNight_11 rfl rfl ?_
    refine g_iconst (pc' := 13) dX9_passNight_12 rfl ?_
    refine g_bipush (pc' := 15) (v := 20) dX9_passNight_13 rfl (by decide) ?_
    refine g_callSip (pc' := 18) (As := [vi b, vi 1, vi 20]) (S := []) dX9_passNight_15 rfl m_X9_191 w_X9_isWithin (c_X9_isWithin X M b hb 1 (by decide) 20 (by decide)) rfl (by decide) (by decide) rfl (Nat.le_of_ble_eq_true rfl) (fun z5 q4 => ?_)
    refine g_if_ne (pc' := 21) (tgt := 23) ⟨by omega, by omega⟩ dX9_passNight_18 rfl rfl (fun c6 => ?_) (fun c6 => ?_)
    · replace q4 := q4.resolve_right (fun h => c6 h.1)
      refine g_aload_n (pc' := 24) 0 dX9_passNight_23 rfl rfl ?_
      refine g_getR (pc' := 27) dX9_passNight_24 rfl f_X9_60 rfl rfl ?_
      refine g_aload_n (pc' := 28) 0 dX9_passNight_27 rfl rfl ?_
      refine g_getR (pc' := 31) dX9_passNight_28 rfl f_X9_12 rfl rfl ?_
      refine g_getR (pc' := 34) dX9_passNight_31 rfl f_X9_86 rfl rfl ?_
      refine g_callVv (pc' := 37) (As := [vr X 2]) (b := 91) (S := []) dX9_passNight_34 rfl m_X9_270 w_X7_copyFrom (c_X7_copyFrom_x X M 91 isT_91 (hi.1 _ isT_91) 2 isT_2 (hi.1 _ isT_2) (by decide) (isT.apart isT_91 isT_2 (by decide)) (M 91 2).toNat (M 91 3).toNat (M 91 5) (M (M 91 2).toNat) (M 91 4) (M (91 + 2)) (M (91 + 1)) (TV.of (hi.1 _ isT_91)) ta tb n P L F Z tv ctn) rfl ⟨_, _, _, rfl, rfl, rfl⟩ (by decide) (by decide) rfl (Nat.le_of_ble_eq_true rfl) (fun M8 q7 => ?_)
      obtain ⟨kM8, fM80, gM80, pM8⟩ := q7
      have iM8 : IC M8 := IC.ofT hi isT_91 fM80 kM8
      have fM8 : Fr (fun c => 91 ≤ c ∧ c ≤ 95) M M8 := Fr.tr Fr.rf fM80 (fun c z => by unfold inT at z; first | omega | (dsimp only; omega))
      have q2_5_M8 : id (M8 2 5 = M 2 5) := (congrFun (fM80 2 (by unfold inT; first | decide | omega)) 5)
      have q1_2_M8 : id (M8 1 2 = M 1 2) := (congrFun (fM80 1 (by unfold inT; first | decide | omega)) 2)
      have q1_4_M8 : id (M8 1 4 = M 1 4) := (congrFun (fM80 1 (by unfold inT; first | decide | omega)) 4)
      have q1_6_M8 : id (M8 1 6 = M 1 6) := (congrFun (fM80 1 (by unfold inT; first | decide | omega)) 6)
      have q11_5_M8 : id (M8 11 5 = M 11 5) := (congrFun (fM80 11 (by unfold inT; first | decide | omega)) 5)
      have q10_2_M8 : id (M8 10 2 = M 10 2) := (congrFun (fM80 10 (by unfold inT; first | decide | omega)) 2)
      have q10_4_M8 : id (M8 10 4 = M 10 4) := (congrFun (fM80 10 (by unfold inT; first | decide | omega)) 4)
      have q10_6_M8 : id (M8 10 6 = M 10 6) := (congrFun (fM80 10 (by unfold inT; first | decide | omega)) 6)
      have q20_5_M8 : id (M8 20 5 = M 20 5) := (congrFun (fM80 20 (by unfold inT; first | decide | omega)) 5)
      have q19_2_M8 : id (M8 19 2 = M 19 2) := (congrFun (fM80 19 (by unfold inT; first | decide | omega)) 2)
      have q19_4_M8 : id (M8 19 4 = M 19 4) := (congrFun (fM80 19 (by unfold inT; first | decide | omega)) 4)
      have q19_6_M8 : id (M8 19 6 = M 19 6) := (congrFun (fM80 19 (by unfold inT; first | decide | omega)) 6)
      have q29_0_M8 : id (M8 29 0 = M 29 0) := (congrFun (fM80 29 (by unfold inT; first | decide | omega)) 0)
      have q29_1_M8 : id (M8 29 1 = M 29 1) := (congrFun (fM80 29 (by unfold inT; first | decide | omega)) 1)
      have q31_1_M8 : id (M8 31 1 = M 31 1) := (congrFun (fM80 31 (by unfold inT; first | decide | omega)) 1)
      have q0_11_M8 : id (M8 0 11 = M 0 11) := (congrFun (fM80 0 (by unfold inT; first | decide | omega)) 11)
      have q0_12_M8 : id (M8 0 12 = M 0 12) := (congrFun (fM80 0 (by unfold inT; first | decide | omega)) 12)
      have q0_13_M8 : id (M8 0 13 = M 0 13) := (congrFun (fM80 0 (by unfold inT; first | decide | omega)) 13)
      have q0_10_M8 : id (M8 0 10 = M 0 10) := (congrFun (fM80 0 (by unfold inT; first | decide | omega)) 10)
      obtain ⟨PM8, FM8, ZM8, tvM8, cp1, cp2, cp3⟩ := pM8
      have tnM8 := tvM8.2.2.1
      have ppM8 : PAP n PM8 L FM8 ZM8 m z := pub.1.cp cp1 cp2 cp3
      refine g_aload_n (pc' := 38) 0 dX9_passNight_37 rfl rfl ?_
      refine g_getR (pc' := 41) dX9_passNight_38 rfl f_X9_60 rfl rfl ?_
      refine g_getI (pc' := 44) dX9_passNight_41 rfl f_X9_274 rfl rfl (fun v9 ev9 rv9 => ?_)
      have bv9 : 0 ≤ v9 ∧ v9 ≤ 6 := by rw [ev9]; exact ⟨(iM8.1 91 isT_91).1, (iM8.1 91 isT_91).2.1⟩
      have yv9 : v9 = M 2 5 := ev9.trans gM80
      refine g_istore_n (pc' := 45) (i := 3) (L' := [(3, vi v9), (0, vr X 0), (1, vi a), (2, vi b)]) dX9_passNight_44 rfl rfl (by decide) rfl ?_
      refine g_iload_n (pc' := 46) 0 dX9_passNight_45 rfl rfl ?_
      refine g_if_le (pc' := 49) (tgt := 59) rv9 dX9_passNight_46 rfl rfl (fun c10 => ?_) (fun c10 => ?_)
      · refine g_iconst (pc' := 60) dX9_passNight_59 rfl ?_
        refine g_ireturn dX9_passNight_60 ?_
        exact ⟨iM8, fM8, q2_5_M8, q1_2_M8, q1_4_M8, q1_6_M8, q11_5_M8, q10_2_M8, q10_4_M8, q10_6_M8, q20_5_M8, q19_2_M8, q19_4_M8, q19_6_M8, q29_0_M8, q29_1_M8, q31_1_M8, q0_11_M8, q0_12_M8, q0_13_M8, q0_10_M8, by omega, fun q => absurd (by omega) q, fun _ => by rw [ntK_0 (by omega)]; exact ⟨rfl, ⟨(M 91 2).toNat, (M 91 3).toNat, PM8, L, FM8, ZM8, tvM8, ppM8⟩⟩⟩
      · refine g_aload_n (pc' := 50) 1 dX9_passNight_49 rfl rfl ?_
        refine g_getR (pc' := 53) dX9_passNight_50 rfl f_X9_12 rfl rfl ?_
        refine g_getI (pc' := 56) dX9_passNight_53 rfl f_X9_207 rfl rfl (fun v11 ev11 rv11 => ?_)
        have bv11 : 0 ≤ v11 ∧ v11 ≤ 3 := by rw [ev11]; exact iM8.2.1.1.1
        have av11 : v11 = M 1 2 := ev11.trans q1_2_M8
        refine g_if_gt (pc' := 59) (tgt := 61) rv11 dX9_passNight_56 rfl rfl (fun c12 => ?_) (fun c12 => ?_)
        · refine g_iconst (pc' := 62) dX9_passNight_61 rfl ?_
          refine g_istore (pc' := 64) (L' := [(4, vi 0), (3, vi v9), (0, vr X 0), (1, vi a), (2, vi b)]) dX9_passNight_62 rfl (by decide) rfl ?_
          refine g_iload_n (pc' := 65) 3 dX9_passNight_64 rfl rfl ?_
          refine g_istore (pc' := 67) (L' := [(5, vi a), (4, vi 0), (3, vi v9), (0, vr X 0), (1, vi a), (2, vi b)]) dX9_passNight_65 rfl (by decide) rfl ?_
          refine g_iconst (pc' := 68) dX9_passNight_67 rfl ?_
          refine g_istore (pc' := 70) (L' := [(6, vi 0), (5, vi a), (4, vi 0), (3, vi v9), (0, vr X 0), (1, vi a), (2, vi b)]) dX9_passNight_68 rfl (by decide) rfl ?_
          refine g_sub [3, 2, 1, 0, 4, 6] rfl ?_
          exact l_X9_passNight_x_70 X M hi a ha b hb ta tb n P L F Z m z tv pub hz6 hW _ v9 0 a 0 M8 iM8 fM8 q2_5_M8 q1_2_M8 q1_4_M8 q1_6_M8 q11_5_M8 q10_2_M8 q10_4_M8 q10_6_M8 q20_5_M8 q19_2_M8 q19_4_M8 q19_6_M8 q29_0_M8 q29_1_M8 q31_1_M8 q0_11_M8 q0_12_M8 q0_13_M8 q0_10_M8 (by omega) (by omega) (by omega) (by omega) (by omega) (by omega) rfl rfl (M 91 2).toNat (M 91 3).toNat PM8 L FM8 ZM8 tvM8 ppM8 rfl
        · refine g_iconst (pc' := 60) dX9_passNight_59 rfl ?_
          refine g_ireturn dX9_passNight_60 ?_
          exact ⟨iM8, fM8, q2_5_M8, q1_2_M8, q1_4_M8, q1_6_M8, q11_5_M8, q10_2_M8, q10_4_M8, q10_6_M8, q20_5_M8, q19_2_M8, q19_4_M8, q19_6_M8, q29_0_M8, q29_1_M8, q31_1_M8, q0_11_M8, q0_12_M8, q0_13_M8, q0_10_M8, by omega, fun q => absurd (by omega) q, fun _ => by rw [ntK_0 (by omega)]; exact ⟨rfl, ⟨(M 91 2).toNat, (M 91 3).toNat, PM8, L, FM8, ZM8, tvM8, ppM8⟩⟩⟩
    · replace q4 := q4.resolve_left (fun h => absurd (c6.symm.trans h.1) (by decide))
      refine g_iconst (pc' := 22) dX9_passNight_21 rfl ?_
      refine g_ireturn dX9_passNight_22 ?_
      exact ⟨hi, Fr.rf, rfl, rfl, rfl, rfl, rfl, rfl, rfl, rfl, rfl, rfl, rfl, rfl, rfl, rfl, rfl, rfl, rfl, rfl, rfl, by omega, fun _ => ⟨rfl, fun _ _ _ => rfl⟩, fun q => absurd q (by omega)⟩
set_option maxHeartbeats 4000000 in
set_option maxRecDepth 100000 in
theorem c_X9_night_x (X : Cx) (M : Mm) (hi : IC M) (a : Int) (ha : inI a) (b : Int) (hb : inI b) (ta tb : Nat) (n : Int) (P : Nat → Int) (L : Int) (F Z m z : Nat → Int) (tv : TV M 2 ta tb n P L F Z) (pub : PUB n P L F Z m z) (hz6 : ∀ j : Nat, j < 6 → z j ≤ 60) (hW : ∀ j : Nat, (j : Int) < M 1 2 → 1 ≤ M 7 j ∧ M 7 j ≤ 60) : Con X 5 yX9_night cX9_night 3 (some .int) [vr X 0, vi a, vi b] M (Qi (fun r M1 => IC M1 ∧ Fr (fun c => (91 ≤ c ∧ c ≤ 95) ∨ c = 0 ∨ c = 96) M M1 ∧ M1 2 5 = M 2 5 ∧ M1 1 2 = M 1 2 ∧ M1 1 4 = M 1 4 ∧ M1 1 6 = M 1 6 ∧ M1 11 5 = M 11 5 ∧ M1 10 2 = M 10 2 ∧ M1 10 4 = M 10 4 ∧ M1 10 6 = M 10 6 ∧ M1 20 5 = M 20 5 ∧ M1 19 2 = M 19 2 ∧ M1 19 4 = M 19 4 ∧ M1 19 6 = M 19 6 ∧ M1 29 0 = M 29 0 ∧ M1 29 1 = M 29 1 ∧ M1 31 1 = M 31 1 ∧ M1 0 11 = M 0 11 ∧ M1 0 12 = M 0 12 ∧ M1 0 13 = M 0 13 ∧ ((-6 ≤ r ∧ r ≤ 60) ∧ (¬ ((0 ≤ a ∧ a ≤ 1000000) ∧ (1 ≤ b ∧ b ≤ 20)) → r = -1 ∧ (∀ c : Nat, 91 ≤ c → c ≤ 95 → M1 c = M c)) ∧ (((0 ≤ a ∧ a ≤ 1000000) ∧ (1 ≤ b ∧ b ≤ 20)) → r = ntC z (M 7) m n (M 1 2) a (ntK n (M 1 2) b) ∧ PQ_ M1 91 n (ntM z (M 7) m n (M 1 2) a (ntK n (M 1 2) b)) z) ∧ M1 0 10 = ngv r ∧ M1 96 = ansF (M 96) r))) := by
  refine Con.ofG rfl (Nat.le_of_ble_eq_true rfl) ?_
  show G X 5 RX9 cX9_night 3 (some .int) (Qi (fun r M1 => IC M1 ∧ Fr (fun c => (91 ≤ c ∧ c ≤ 95) ∨ c = 0 ∨ c = 96) M M1 ∧ M1 2 5 = M 2 5 ∧ M1 1 2 = M 1 2 ∧ M1 1 4 = M 1 4 ∧ M1 1 6 = M 1 6 ∧ M1 11 5 = M 11 5 ∧ M1 10 2 = M 10 2 ∧ M1 10 4 = M 10 4 ∧ M1 10 6 = M 10 6 ∧ M1 20 5 = M 20 5 ∧ M1 19 2 = M 19 2 ∧ M1 19 4 = M 19 4 ∧ M1 19 6 = M 19 6 ∧ M1 29 0 = M 29 0 ∧ M1 29 1 = M 29 1 ∧ M1 31 1 = M 31 1 ∧ M1 0 11 = M 0 11 ∧ M1 0 12 = M 0 12 ∧ M1 0 13 = M 0 13 ∧ ((-6 ≤ r ∧ r ≤ 60) ∧ (¬ ((0 ≤ a ∧ a ≤ 1000000) ∧ (1 ≤ b ∧ b ≤ 20)) → r = -1 ∧ (∀ c : Nat, 91 ≤ c → c ≤ 95 → M1 c = M c)) ∧ (((0 ≤ a ∧ a ≤ 1000000) ∧ (1 ≤ b ∧ b ≤ 20)) → r = ntC z (M 7) m n (M 1 2) a (ntK n (M 1 2) b) ∧ PQ_ M1 91 n (ntM z (M 7) m n (M 1 2) a (ntK n (M 1 2) b)) z) ∧ M1 0 10 = ngv r ∧ M1 96 = ansF (M 96) r))) 0 [(0, vr X 0), (1, vi a), (2, vi b)] [] M
  have tn := tv.2.2.1
  have ctn := pub.1.1
  have hsc := hi.2.1.1.1
  refine g_aload_n (pc' := 1) 0 dX9_night_0 rfl rfl ?_
  refine g_aload_n (pc' := 2) 0 dX9_night_1 rfl rfl ?_
  refine g_iload_n (pc' := 3) 1 dX9_night_2 rfl rfl ?_
  refine g_iload_n (pc' := 4) 2 dX9_night_3 rfl rfl ?_
  refine g_callVi (pc' := 7) (As := [vi a, vi b]) (b := 0) (S := [vr X 0]) dX9_night_4 rfl m_X9_266 w_X9_passNight (c_X9_passNight_x X M hi a ha b hb ta tb n P L F Z m z tv pub hz6 hW) rfl ⟨_, _, _, rfl, rfl, rfl⟩ (by decide) (by decide) rfl (Nat.le_of_ble_eq_true rfl) (fun z2 M3 q1 => ?_)
  obtain ⟨iM3, fM30, eM3_2_5, eM3_1_2, eM3_1_4, eM3_1_6, eM3_11_5, eM3_10_2, eM3_10_4, eM3_10_6, eM3_20_5, eM3_19_2, eM3_19_4, eM3_19_6, eM3_29_0, eM3_29_1, eM3_31_1, eM3_0_11, eM3_0_12, eM3_0_13, eM3_0_10, pM3⟩ := q1
  have fM3 : Fr (fun c => (91 ≤ c ∧ c ≤ 95) ∨ c = 0 ∨ c = 96) M M3 := Fr.tr Fr.rf fM30 fi_24
  have q2_5_M3 : id (M3 2 5 = M 2 5) := eM3_2_5
  have q1_2_M3 : id (M3 1 2 = M 1 2) := eM3_1_2
  have q1_4_M3 : id (M3 1 4 = M 1 4) := eM3_1_4
  have q1_6_M3 : id (M3 1 6 = M 1 6) := eM3_1_6
  have q11_5_M3 : id (M3 11 5 = M 11 5) := eM3_11_5
  have q10_2_M3 : id (M3 10 2 = M 10 2) := eM3_10_2
  have q10_4_M3 : id (M3 10 4 = M 10 4) := eM3_10_4
  have q10_6_M3 : id (M3 10 6 = M 10 6) := eM3_10_6
  have q20_5_M3 : id (M3 20 5 = M 20 5) := eM3_20_5
  have q19_2_M3 : id (M3 19 2 = M 19 2) := eM3_19_2
  have q19_4_M3 : id (M3 19 4 = M 19 4) := eM3_19_4
  have q19_6_M3 : id (M3 19 6 = M 19 6) := eM3_19_6
  have q29_0_M3 : id (M3 29 0 = M 29 0) := eM3_29_0
  have q29_1_M3 : id (M3 29 1 = M 29 1) := eM3_29_1
  have q31_1_M3 : id (M3 31 1 = M 31 1) := eM3_31_1
  have q0_11_M3 : id (M3 0 11 = M 0 11) := eM3_0_11
  have q0_12_M3 : id (M3 0 12 = M 0 12) := eM3_0_12
  have q0_13_M3 : id (M3 0 13 = M 0 13) := eM3_0_13
  have q0_10_M3 : (M3 0 10 = M 0 10) := eM3_0_10
  have wM3_0_10 : M3 0 10 = M 0 10 := eM3_0_10
  clear eM3_2_5 eM3_1_2 eM3_1_4 eM3_1_6 eM3_11_5 eM3_10_2 eM3_10_4 eM3_10_6 eM3_20_5 eM3_19_2 eM3_19_4 eM3_19_6 eM3_29_0 eM3_29_1 eM3_31_1 eM3_0_11 eM3_0_12 eM3_0_13
  obtain ⟨prM3, pgM3⟩ := pM3
  have e96M3 := fM30 96 (by first | decide | omega | (dsimp only; omega))
  refine g_callVi (pc' := 10) (As := [vi z2]) (b := 0) (S := []) dX9_night_7 rfl m_X9_79 w_X9_answered (c_X9_answered_x X M3 iM3 z2 ⟨by omega, by omega⟩) rfl ⟨_, _, _, rfl, rfl, rfl⟩ (by decide) (by decide) rfl (Nat.le_of_ble_eq_true rfl) (fun z5 M6 q4 => ?_)
  obtain ⟨iM6, fM60, eM6_2_5, eM6_1_2, eM6_1_4, eM6_1_6, eM6_11_5, eM6_10_2, eM6_10_4, eM6_10_6, eM6_20_5, eM6_19_2, eM6_19_4, eM6_19_6, eM6_29_0, eM6_29_1, eM6_31_1, eM6_0_11, eM6_0_12, eM6_0_13, pM6⟩ := q4
  have fM6 : Fr (fun c => (91 ≤ c ∧ c ≤ 95) ∨ c = 0 ∨ c = 96) M M6 := Fr.tr fM3 fM60 fi_25
  have q2_5_M6 : id (M6 2 5 = M 2 5) := eM6_2_5.trans q2_5_M3
  have q1_2_M6 : id (M6 1 2 = M 1 2) := eM6_1_2.trans q1_2_M3
  have q1_4_M6 : id (M6 1 4 = M 1 4) := eM6_1_4.trans q1_4_M3
  have q1_6_M6 : id (M6 1 6 = M 1 6) := eM6_1_6.trans q1_6_M3
  have q11_5_M6 : id (M6 11 5 = M 11 5) := eM6_11_5.trans q11_5_M3
  have q10_2_M6 : id (M6 10 2 = M 10 2) := eM6_10_2.trans q10_2_M3
  have q10_4_M6 : id (M6 10 4 = M 10 4) := eM6_10_4.trans q10_4_M3
  have q10_6_M6 : id (M6 10 6 = M 10 6) := eM6_10_6.trans q10_6_M3
  have q20_5_M6 : id (M6 20 5 = M 20 5) := eM6_20_5.trans q20_5_M3
  have q19_2_M6 : id (M6 19 2 = M 19 2) := eM6_19_2.trans q19_2_M3
  have q19_4_M6 : id (M6 19 4 = M 19 4) := eM6_19_4.trans q19_4_M3
  have q19_6_M6 : id (M6 19 6 = M 19 6) := eM6_19_6.trans q19_6_M3
  have q29_0_M6 : id (M6 29 0 = M 29 0) := eM6_29_0.trans q29_0_M3
  have q29_1_M6 : id (M6 29 1 = M 29 1) := eM6_29_1.trans q29_1_M3
  have q31_1_M6 : id (M6 31 1 = M 31 1) := eM6_31_1.trans q31_1_M3
  have q0_11_M6 : id (M6 0 11 = M 0 11) := eM6_0_11.trans q0_11_M3
  have q0_12_M6 : id (M6 0 12 = M 0 12) := eM6_0_12.trans q0_12_M3
  have q0_13_M6 : id (M6 0 13 = M 0 13) := eM6_0_13.trans q0_13_M3
  clear eM6_2_5 eM6_1_2 eM6_1_4 eM6_1_6 eM6_11_5 eM6_10_2 eM6_10_4 eM6_10_6 eM6_20_5 eM6_19_2 eM6_19_4 eM6_19_6 eM6_29_0 eM6_29_1 eM6_31_1 eM6_0_11 eM6_0_12 eM6_0_13
  obtain ⟨anM6, asM6, a96M6⟩ := pM6
  rw [e96M3] at a96M6
  subst anM6
  have faM6 := fM60
  refine g_ireturn dX9_night_10 ?_
  exact ⟨iM6, fM6, q2_5_M6, q1_2_M6, q1_4_M6, q1_6_M6, q11_5_M6, q10_2_M6, q10_4_M6, q10_6_M6, q20_5_M6, q19_2_M6, q19_4_M6, q19_6_M6, q29_0_M6, q29_1_M6, q31_1_M6, q0_11_M6, q0_12_M6, q0_13_M6, prM3, fun q => ⟨(pgM3.1 q).1, fun c h1 h2 => (faM6 c (by first | omega | (dsimp only; omega))).trans ((pgM3.1 q).2 c h1 h2)⟩, fun q => ⟨(pgM3.2 q).1, PQ_.far (pgM3.2 q).2 faM6 (fun c z => by unfold inT; first | omega | (dsimp only at z; omega))⟩, asM6, a96M6⟩
set_option maxHeartbeats 4000000 in
set_option maxRecDepth 100000 in
theorem c_X9_drawn_x (X : Cx) (M : Mm) (hi : IC M) (a : Int) (ha : inI a) (b : Int) (hb : inI b) (ta tb : Nat) (n : Int) (P : Nat → Int) (L : Int) (F Z m z : Nat → Int) (tv : TV M 91 ta tb n P L F Z) (pap : PAP n P L F Z m z) : Con X 10 yX9_drawn cX9_drawn 3 (some .int) [vr X 0, vi a, vi b] M (Qi (fun r M1 => M1 = M ∧ ((((0 ≤ a ∧ a < n) ∧ (0 ≤ b ∧ b ≤ 3)) → r = tsM m a b) ∧ (¬ ((0 ≤ a ∧ a < n) ∧ (0 ≤ b ∧ b ≤ 3)) → r = -1)))) := by
  refine Con.ofG rfl (Nat.le_of_ble_eq_true rfl) ?_
  show G X 10 RX9 cX9_drawn 3 (some .int) (Qi (fun r M1 => M1 = M ∧ ((((0 ≤ a ∧ a < n) ∧ (0 ≤ b ∧ b ≤ 3)) → r = tsM m a b) ∧ (¬ ((0 ≤ a ∧ a < n) ∧ (0 ≤ b ∧ b ≤ 3)) → r = -1)))) 0 [(0, vr X 0), (1, vi a), (2, vi b)] [] M
  have tn := tv.2.2.1
  have ctn := pap.1
  refine g_aload_n (pc' := 1) 0 dX9_drawn_0 rfl rfl ?_
  refine g_getR (pc' := 4) dX9_drawn_1 rfl f_X9_60 rfl rfl ?_
  refine g_iload_n (pc' := 5) 1 dX9_drawn_4 rfl rfl ?_
  refine g_callVip (pc' := 8) (As := [vi a]) (b := 91) (S := []) dX9_drawn_5 rfl m_X9_92 w_X7_has (c_X7_has X M 91 isT_91 (hi.1 _ isT_91) a ha) rfl ⟨_, _, _, rfl, rfl, rfl⟩ (by decide) (by decide) rfl (Nat.le_of_ble_eq_true rfl) (fun z2 q1 => ?_)
  refine g_if_eq (pc' := 11) (tgt := 18) ⟨by omega, by omega⟩ dX9_drawn_8 rfl rfl (fun c3 => ?_) (fun c3 => ?_)
  · replace q1 := q1.resolve_left (fun h => absurd (c3.symm.trans h.1) (by decide))
    refine g_iconst (pc' := 19) dX9_drawn_18 rfl ?_
    refine g_ireturn dX9_drawn_19 ?_
    exact ⟨rfl, fun q => by omega, fun q => by omega⟩
  · replace q1 := q1.resolve_right (fun h => c3 h.1)
    refine g_iload_n (pc' := 12) 2 dX9_drawn_11 rfl rfl ?_
    refine g_callSip (pc' := 15) (As := [vi b]) (S := []) dX9_drawn_12 rfl m_X9_101 w_X9_isStuff (c_X9_isStuff X M b hb) rfl (by decide) (by decide) rfl (Nat.le_of_ble_eq_true rfl) (fun z5 q4 => ?_)
    refine g_if_ne (pc' := 18) (tgt := 20) ⟨by omega, by omega⟩ dX9_drawn_15 rfl rfl (fun c6 => ?_) (fun c6 => ?_)
    · replace q4 := q4.resolve_right (fun h => c6 h.1)
      refine g_aload_n (pc' := 21) 0 dX9_drawn_20 rfl rfl ?_
      refine g_getR (pc' := 24) dX9_drawn_21 rfl f_X9_60 rfl rfl ?_
      refine g_iload_n (pc' := 25) 1 dX9_drawn_24 rfl rfl ?_
      refine g_iload_n (pc' := 26) 2 dX9_drawn_25 rfl rfl ?_
      refine g_callVip (pc' := 29) (As := [vi a, vi b]) (b := 91) (S := []) dX9_drawn_26 rfl m_X9_114 w_X7_tasteOf (c_X7_tasteOf_x X M 91 isT_91 (hi.1 _ isT_91) a ha b hb ta tb n P L F Z tv pap.ct) rfl ⟨_, _, _, rfl, rfl, rfl⟩ (by decide) (by decide) rfl (Nat.le_of_ble_eq_true rfl) (fun z8 q7 => ?_)
      have q7a := q7.1
      have q7b := q7.2
      clear q7
      refine g_ireturn dX9_drawn_29 ?_
      exact ⟨rfl, fun q => by rw [q7b]; exact TE ctn pap.2.1 pap.2.2.2.1 (by omega) (by omega), fun q => by omega⟩
    · replace q4 := q4.resolve_left (fun h => absurd (c6.symm.trans h.1) (by decide))
      refine g_iconst (pc' := 19) dX9_drawn_18 rfl ?_
      refine g_ireturn dX9_drawn_19 ?_
      exact ⟨rfl, fun q => by omega, fun q => by omega⟩
set_option maxHeartbeats 4000000 in
set_option maxRecDepth 100000 in
theorem c_X10_draw_x (X : Cx) (M : Mm) (hi : IM M) (n : Int) (hn : inI n) (hst : 0 ≤ M 97 42 ∧ M 97 42 ≤ 1000003) (hn1 : 1 ≤ n) : Con X 0 yX10_draw cX10_draw 2 (some .int) [vr X 97, vi n] M (Qi (fun r M1 => IM M1 ∧ Fr (fun c => c = 97) M M1 ∧ M1 99 0 = M 99 0 ∧ M1 99 1 = M 99 1 ∧ M1 99 2 = M 99 2 ∧ M1 99 3 = M 99 3 ∧ M1 100 0 = M 100 0 ∧ M1 100 1 = M 100 1 ∧ M1 100 2 = M 100 2 ∧ M1 100 3 = M 100 3 ∧ M1 100 49 = M 100 49 ∧ M1 100 50 = M 100 50 ∧ M1 100 51 = M 100 51 ∧ M1 100 52 = M 100 52 ∧ M1 103 0 = M 103 0 ∧ M1 103 1 = M 103 1 ∧ M1 97 12 = M 97 12 ∧ M1 97 17 = M 97 17 ∧ M1 97 33 = M 97 33 ∧ M1 97 10 = M 97 10 ∧ M1 97 44 = M 97 44 ∧ M1 97 1 = M 97 1 ∧ ((0 ≤ r ∧ r < n) ∧ M1 97 42 = ndr (M 97 42) ∧ r = ndr (M 97 42) % n))) := by
  refine Con.ofG rfl (Nat.le_of_ble_eq_true rfl) ?_
  show G X 0 RX10 cX10_draw 2 (some .int) (Qi (fun r M1 => IM M1 ∧ Fr (fun c => c = 97) M M1 ∧ M1 99 0 = M 99 0 ∧ M1 99 1 = M 99 1 ∧ M1 99 2 = M 99 2 ∧ M1 99 3 = M 99 3 ∧ M1 100 0 = M 100 0 ∧ M1 100 1 = M 100 1 ∧ M1 100 2 = M 100 2 ∧ M1 100 3 = M 100 3 ∧ M1 100 49 = M 100 49 ∧ M1 100 50 = M 100 50 ∧ M1 100 51 = M 100 51 ∧ M1 100 52 = M 100 52 ∧ M1 103 0 = M 103 0 ∧ M1 103 1 = M 103 1 ∧ M1 97 12 = M 97 12 ∧ M1 97 17 = M 97 17 ∧ M1 97 33 = M 97 33 ∧ M1 97 10 = M 97 10 ∧ M1 97 44 = M 97 44 ∧ M1 97 1 = M 97 1 ∧ ((0 ≤ r ∧ r < n) ∧ M1 97 42 = ndr (M 97 42) ∧ r = ndr (M 97 42) % n))) 0 [(0, vr X 97), (1, vi n)] [] M
  refine g_aload_n (pc' := 1) 0 dX10_draw_0 rfl rfl ?_
  refine g_aload_n (pc' := 2) 0 dX10_draw_1 rfl rfl ?_
  refine g_getL (pc' := 5) dX10_draw_2 rfl f_X10_399 rfl rfl (fun v1 ev1 rv1 => ?_)
  have av1 : v1 = M 97 42 := ev1
  refine g_ldc2 (pc' := 8) (v := 1103) dX10_draw_5 rfl k_X10_402 ?_
  refine g_lmul (pc' := 9) dX10_draw_8 rfl ?_
  refine g_ldc2 (pc' := 12) (v := 12345) dX10_draw_9 rfl k_X10_404 ?_
  refine g_ladd (pc' := 13) dX10_draw_12 rfl ?_
  refine g_ldc2 (pc' := 16) (v := 1000003) dX10_draw_13 rfl k_X10_406 ?_
  refine g_lremP (pc' := 17) ⟨by omega, by omega⟩ (by decide) (by omega) (by omega) dX10_draw_16 rfl ?_
  obtain ⟨nd, hnd⟩ : ∃ z : Int, z = ((v1 * 1103) + 12345) % 1000003 := ⟨_, rfl⟩
  rw [← hnd]
  have hne : nd = ndr (M 97 42) := by rw [hnd]; show ndr v1 = _; rw [ev1]
  have hnb := ndr_b (M 97 42)
  refine g_putL (pc' := 20) dX10_draw_17 rfl p_X10_399 rfl rfl ⟨by omega, by omega⟩ (fun M2 hM2 => ?_)
  have iM2 : IM M2 := IM.wr hi hM2 (by unfold okv; first | decide | omega)
  have fM2 : Fr (fun c => c = 97) M M2 := Fr.wr Fr.rf hM2 (by first | decide | omega | (dsimp only; omega))
  have q99_0_M2 : (M2 99 0 = M 99 0) := (show M2 99 0 = M 99 0 by rw [hM2]; exact mu_ne _ _ (by first | decide | omega))
  have q99_1_M2 : (M2 99 1 = M 99 1) := (show M2 99 1 = M 99 1 by rw [hM2]; exact mu_ne _ _ (by first | decide | omega))
  have q99_2_M2 : (M2 99 2 = M 99 2) := (show M2 99 2 = M 99 2 by rw [hM2]; exact mu_ne _ _ (by first | decide | omega))
  have q99_3_M2 : (M2 99 3 = M 99 3) := (show M2 99 3 = M 99 3 by rw [hM2]; exact mu_ne _ _ (by first | decide | omega))
  have q100_0_M2 : id (M2 100 0 = M 100 0) := (show M2 100 0 = M 100 0 by rw [hM2]; exact mu_ne _ _ (by first | decide | omega))
  have q100_1_M2 : id (M2 100 1 = M 100 1) := (show M2 100 1 = M 100 1 by rw [hM2]; exact mu_ne _ _ (by first | decide | omega))
  have q100_2_M2 : id (M2 100 2 = M 100 2) := (show M2 100 2 = M 100 2 by rw [hM2]; exact mu_ne _ _ (by first | decide | omega))
  have q100_3_M2 : id (M2 100 3 = M 100 3) := (show M2 100 3 = M 100 3 by rw [hM2]; exact mu_ne _ _ (by first | decide | omega))
  have q100_49_M2 : id (M2 100 49 = M 100 49) := (show M2 100 49 = M 100 49 by rw [hM2]; exact mu_ne _ _ (by first | decide | omega))
  have q100_50_M2 : id (M2 100 50 = M 100 50) := (show M2 100 50 = M 100 50 by rw [hM2]; exact mu_ne _ _ (by first | decide | omega))
  have q100_51_M2 : id (M2 100 51 = M 100 51) := (show M2 100 51 = M 100 51 by rw [hM2]; exact mu_ne _ _ (by first | decide | omega))
  have q100_52_M2 : id (M2 100 52 = M 100 52) := (show M2 100 52 = M 100 52 by rw [hM2]; exact mu_ne _ _ (by first | decide | omega))
  have q103_0_M2 : id (M2 103 0 = M 103 0) := (show M2 103 0 = M 103 0 by rw [hM2]; exact mu_ne _ _ (by first | decide | omega))
  have q103_1_M2 : id (M2 103 1 = M 103 1) := (show M2 103 1 = M 103 1 by rw [hM2]; exact mu_ne _ _ (by first | decide | omega))
  have q97_12_M2 : (M2 97 12 = M 97 12) := (show M2 97 12 = M 97 12 by rw [hM2]; exact mu_ne _ _ (by first | decide | omega))
  have q97_17_M2 : (M2 97 17 = M 97 17) := (show M2 97 17 = M 97 17 by rw [hM2]; exact mu_ne _ _ (by first | decide | omega))
  have q97_33_M2 : (M2 97 33 = M 97 33) := (show M2 97 33 = M 97 33 by rw [hM2]; exact mu_ne _ _ (by first | decide | omega))
  have q97_10_M2 : (M2 97 10 = M 97 10) := (show M2 97 10 = M 97 10 by rw [hM2]; exact mu_ne _ _ (by first | decide | omega))
  have q97_44_M2 : (M2 97 44 = M 97 44) := (show M2 97 44 = M 97 44 by rw [hM2]; exact mu_ne _ _ (by first | decide | omega))
  have q97_1_M2 : (M2 97 1 = M 97 1) := (show M2 97 1 = M 97 1 by rw [hM2]; exact mu_ne _ _ (by first | decide | omega))
  have xM2_97_42 : M2 97 42 = nd := by rw [hM2]; exact mu_at _ _ _ _
  refine g_aload_n (pc' := 21) 0 dX10_draw_20 rfl rfl ?_
  refine g_getL (pc' := 24) dX10_draw_21 rfl f_X10_399 rfl rfl (fun v3 ev3 rv3 => ?_)
  have yv3 : v3 = nd := ev3.trans xM2_97_42
  refine g_iload_n (pc' := 25) 1 dX10_draw_24 rfl rfl ?_
  refine g_i2l (pc' := 26) hn dX10_draw_25 rfl ?_
  refine g_lremP (pc' := 27) rv3 ⟨by omega, by omega⟩ (by omega) (by omega) dX10_draw_26 rfl ?_
  have hm1 := Int.emod_nonneg v3 (show n ≠ 0 by omega)
  have hm2 := Int.emod_lt_of_pos v3 (show 0 < n by omega)
  refine g_l2i (pc' := 28) dX10_draw_27 rfl ?_
  refine g_ireturn dX10_draw_28 ?_
  exact ⟨iM2, fM2, q99_0_M2, q99_1_M2, q99_2_M2, q99_3_M2, q100_0_M2, q100_1_M2, q100_2_M2, q100_3_M2, q100_49_M2, q100_50_M2, q100_51_M2, q100_52_M2, q103_0_M2, q103_1_M2, q97_12_M2, q97_17_M2, q97_33_M2, q97_10_M2, q97_44_M2, q97_1_M2, by omega, by omega, by rw [← hne, show v3 = nd by omega]⟩
set_option maxHeartbeats 4000000 in
set_option maxRecDepth 100000 in
theorem l_X10_night_x_157 (X : Cx) (M : Mm) (hi : IM M) (a : Int) (ha : inI a) (b : Int) (hb : inI b) : ∀ (kk : Nat) (md : Int) (k : Int) (M1 : Mm) (ic1 : IM M1) (fr1 : Fr (fun c => c = 97 ∨ c = 98 ∨ c = 101 ∨ c = 104 ∨ c = 105 ∨ c = 116) M M1) (q99_0 : (M1 99 0 = M 99 0)) (q99_1 : (M1 99 1 = M 99 1)) (q99_2 : (M1 99 2 = M 99 2)) (q99_3 : (M1 99 3 = M 99 3)) (q100_0 : id (M1 100 0 = M 100 0)) (q100_1 : id (M1 100 1 = M 100 1)) (q100_2 : id (M1 100 2 = M 100 2)) (q100_3 : id (M1 100 3 = M 100 3)) (q100_49 : id (M1 100 49 = M 100 49)) (q100_50 : id (M1 100 50 = M 100 50)) (q100_51 : id (M1 100 51 = M 100 51)) (q100_52 : id (M1 100 52 = M 100 52)) (q103_0 : id (M1 103 0 = M 103 0)) (q103_1 : id (M1 103 1 = M 103 1)) (q97_12 : (M1 97 12 = M 97 12)) (q97_17 : (M1 97 17 = M 97 17)) (q97_33 : (M1 97 33 = M 97 33)) (q97_10 : (M1 97 10 = M 97 10)) (q97_1 : (M1 97 1 = M 97 1)) (kn : ∀ j : Nat, j < 25 → M1 104 (275 + j) = M 101 j) (k98 : M1 98 = M 98) (k99 : M1 99 = M 99) (hm : md = ntC (fun j => M 99 (4 + j)) (fun j => M 99 (10 + j)) (M 101) (M 99 0) (M 99 1) a (ntK (M 99 0) (M 99 1) b)) (hmb : 0 ≤ md ∧ md ≤ 20) (h0 : 0 ≤ k) (h1 : k ≤ 4 * M 99 0) (n44 : M1 97 44 = M 99 0) (hb2 : (0 ≤ a ∧ a ≤ 1000000) ∧ (1 ≤ b ∧ b ≤ 20)) (e25 : E25 (ntM (fun j => M 99 (4 + j)) (fun j => M 99 (10 + j)) (M 101) (M 99 0) (M 99 1) a (ntK (M 99 0) (M 99 1) b)) (M1 101)) (dn : ∀ j : Nat, (j : Int) < k → M1 116 j = tsM (ntM (fun j => M 99 (4 + j)) (fun j => M 99 (10 + j)) (M 101) (M 99 0) (M 99 1) a (ntK (M 99 0) (M 99 1) b)) ((j : Int) / 4) ((j : Int) % 4)), (24 - k).toNat = kk → G X 12 RX10 cX10_night 7 (some .int) (Qi (fun r M1 => IM M1 ∧ Fr (fun c => c = 97 ∨ c = 98 ∨ c = 101 ∨ c = 104 ∨ c = 105 ∨ c = 116) M M1 ∧ M1 99 0 = M 99 0 ∧ M1 99 1 = M 99 1 ∧ M1 99 2 = M 99 2 ∧ M1 99 3 = M 99 3 ∧ M1 100 0 = M 100 0 ∧ M1 100 1 = M 100 1 ∧ M1 100 2 = M 100 2 ∧ M1 100 3 = M 100 3 ∧ M1 100 49 = M 100 49 ∧ M1 100 50 = M 100 50 ∧ M1 100 51 = M 100 51 ∧ M1 100 52 = M 100 52 ∧ M1 103 0 = M 103 0 ∧ M1 103 1 = M 103 1 ∧ M1 97 12 = M 97 12 ∧ M1 97 17 = M 97 17 ∧ M1 97 33 = M 97 33 ∧ M1 97 10 = M 97 10 ∧ ((-6 ≤ r ∧ r ≤ 60) ∧ (¬ ((0 ≤ a ∧ a ≤ 1000000) ∧ (1 ≤ b ∧ b ≤ 20)) → r = -1 ∧ M1 116 = M 116 ∧ M1 97 44 = M 97 44) ∧ (((0 ≤ a ∧ a ≤ 1000000) ∧ (1 ≤ b ∧ b ≤ 20)) → r = ntC (fun j => M 99 (4 + j)) (fun j => M 99 (10 + j)) (M 101) (M 99 0) (M 99 1) a (ntK (M 99 0) (M 99 1) b) ∧ M1 97 44 = M 99 0 ∧ ∀ j : Nat, (j : Int) < 4 * M 99 0 → M1 116 j = tsM (ntM (fun j => M 99 (4 + j)) (fun j => M 99 (10 + j)) (M 101) (M 99 0) (M 99 1) a (ntK (M 99 0) (M 99 1) b)) ((j : Int) / 4) ((j : Int) % 4)) ∧ E25 (M 101) (M1 101) ∧ M1 97 1 = ngv r ∧ M1 98 = telF (M 98) r))) 157 [(3, vi md), (4, vi k), (0, vr X 97)] [] M1 := by
  intro kk
  induction kk using Nat.strongRecOn with
  | ind kk ih =>
    intro md k M1 ic1 fr1 q99_0 q99_1 q99_2 q99_3 q100_0 q100_1 q100_2 q100_3 q100_49 q100_50 q100_51 q100_52 q103_0 q103_1 q97_12 q97_17 q97_33 q97_10 q97_1 kn k98 k99 hm hmb h0 h1 n44 hb2 e25 dn hmes
    have p0 := hi.1.1
    have p1 := hi.1.2.1
    have p2 := hi.1.2.2.1
    have p3 := hi.1.2.2.2.1
    have p12 := hi.2.2.2.1
    refine g_iload (pc' := 159) 1 dX10_night_157 rfl rfl ?_
    refine g_iconst (pc' := 160) dX10_night_159 rfl ?_
    refine g_aload_n (pc' := 161) 2 dX10_night_160 rfl rfl ?_
    refine g_getI (pc' := 164) dX10_night_161 rfl f_X10_411 rfl rfl (fun v1 ev1 rv1 => ?_)
    have bv1 : 0 ≤ v1 ∧ v1 ≤ 6 := by rw [ev1]; exact ic1.2.2.2.2
    refine g_imul (pc' := 165) dX10_night_164 rfl ?_
    refine g_ic_ge (pc' := 168) (tgt := 193) ⟨by omega, by omega⟩ ⟨by omega, by omega⟩ dX10_night_165 rfl rfl (fun c2 => ?_) (fun c2 => ?_)
    · refine g_aload_n (pc' := 194) 2 dX10_night_193 rfl rfl ?_
      refine g_sipush (pc' := 197) (v := 275) dX10_night_194 rfl (by decide) ?_
      refine g_callVv (pc' := 200) (As := [vi 275]) (b := 97) (S := []) dX10_night_197 rfl m_X10_132 w_X10_putBack (c_X10_putBack X M1 275 (by decide) ⟨by omega, by omega⟩) rfl ⟨_, _, _, rfl, rfl, rfl⟩ (by decide) (by decide) rfl (Nat.le_of_ble_eq_true rfl) (fun M4 q3 => ?_)
      obtain ⟨fbM4, pbM4⟩ := q3
      have iM4 : IM M4 := IM.parts ic1 fbM4 (fun c z => by omega) (PIw.cg hi.2.1 (fun j hj => (pbM4 j hj).trans (kn j hj)))
      have fM4 : Fr (fun c => c = 97 ∨ c = 98 ∨ c = 101 ∨ c = 104 ∨ c = 105 ∨ c = 116) M M4 := Fr.tr fr1 fbM4 (fun c z => by omega)
      have q99_0_M4 : M4 99 0 = M 99 0 := (congrFun (fbM4 99 (by omega)) 0).trans q99_0
      have q99_1_M4 : M4 99 1 = M 99 1 := (congrFun (fbM4 99 (by omega)) 1).trans q99_1
      have q99_2_M4 : M4 99 2 = M 99 2 := (congrFun (fbM4 99 (by omega)) 2).trans q99_2
      have q99_3_M4 : M4 99 3 = M 99 3 := (congrFun (fbM4 99 (by omega)) 3).trans q99_3
      have q100_0_M4 : M4 100 0 = M 100 0 := (congrFun (fbM4 100 (by omega)) 0).trans q100_0
      have q100_1_M4 : M4 100 1 = M 100 1 := (congrFun (fbM4 100 (by omega)) 1).trans q100_1
      have q100_2_M4 : M4 100 2 = M 100 2 := (congrFun (fbM4 100 (by omega)) 2).trans q100_2
      have q100_3_M4 : M4 100 3 = M 100 3 := (congrFun (fbM4 100 (by omega)) 3).trans q100_3
      have q100_49_M4 : M4 100 49 = M 100 49 := (congrFun (fbM4 100 (by omega)) 49).trans q100_49
      have q100_50_M4 : M4 100 50 = M 100 50 := (congrFun (fbM4 100 (by omega)) 50).trans q100_50
      have q100_51_M4 : M4 100 51 = M 100 51 := (congrFun (fbM4 100 (by omega)) 51).trans q100_51
      have q100_52_M4 : M4 100 52 = M 100 52 := (congrFun (fbM4 100 (by omega)) 52).trans q100_52
      have q103_0_M4 : M4 103 0 = M 103 0 := (congrFun (fbM4 103 (by omega)) 0).trans q103_0
      have q103_1_M4 : M4 103 1 = M 103 1 := (congrFun (fbM4 103 (by omega)) 1).trans q103_1
      have q97_12_M4 : M4 97 12 = M 97 12 := (congrFun (fbM4 97 (by omega)) 12).trans q97_12
      have q97_17_M4 : M4 97 17 = M 97 17 := (congrFun (fbM4 97 (by omega)) 17).trans q97_17
      have q97_33_M4 : M4 97 33 = M 97 33 := (congrFun (fbM4 97 (by omega)) 33).trans q97_33
      have q97_10_M4 : M4 97 10 = M 97 10 := (congrFun (fbM4 97 (by omega)) 10).trans q97_10
      have q97_1_M4 : M4 97 1 = M 97 1 := (congrFun (fbM4 97 (by omega)) 1).trans q97_1
      have c98M4 : M4 98 = M 98 := (fbM4 98 (by decide)).trans k98
      have c99M4 : M4 99 = M 99 := (fbM4 99 (by decide)).trans k99
      have e25z : E25 (M 101) (M4 101) := fun j hj => (pbM4 j hj).trans (kn j hj)
      have x116M4 := fbM4 116 (by decide)
      have x44M4 := congrFun (fbM4 97 (by decide)) 44
      refine g_aload_n (pc' := 201) 2 dX10_night_200 rfl rfl ?_
      refine g_iload_n (pc' := 202) 0 dX10_night_201 rfl rfl ?_
      refine g_callVi (pc' := 205) (As := [vi md]) (b := 97) (S := []) dX10_night_202 rfl m_X10_87 w_X10_tell (c_X10_tell_x X M4 iM4 md ⟨by omega, by omega⟩ (by omega)) rfl ⟨_, _, _, rfl, rfl, rfl⟩ (by decide) (by decide) rfl (Nat.le_of_ble_eq_true rfl) (fun z6 M7 q5 => ?_)
      obtain ⟨iM7, fM70, eM7_99_0, eM7_99_1, eM7_99_2, eM7_99_3, eM7_100_0, eM7_100_1, eM7_100_2, eM7_100_3, eM7_100_49, eM7_100_50, eM7_100_51, eM7_100_52, eM7_103_0, eM7_103_1, eM7_97_12, eM7_97_17, eM7_97_33, eM7_97_10, eM7_97_44, pM7⟩ := q5
      have fM7 : Fr (fun c => c = 97 ∨ c = 98 ∨ c = 101 ∨ c = 104 ∨ c = 105 ∨ c = 116) M M7 := Fr.tr fM4 fM70 fi_35
      have q99_0_M7 : (M7 99 0 = M 99 0) := eM7_99_0.trans q99_0_M4
      have q99_1_M7 : (M7 99 1 = M 99 1) := eM7_99_1.trans q99_1_M4
      have q99_2_M7 : (M7 99 2 = M 99 2) := eM7_99_2.trans q99_2_M4
      have q99_3_M7 : (M7 99 3 = M 99 3) := eM7_99_3.trans q99_3_M4
      have q100_0_M7 : id (M7 100 0 = M 100 0) := eM7_100_0.trans q100_0_M4
      have q100_1_M7 : id (M7 100 1 = M 100 1) := eM7_100_1.trans q100_1_M4
      have q100_2_M7 : id (M7 100 2 = M 100 2) := eM7_100_2.trans q100_2_M4
      have q100_3_M7 : id (M7 100 3 = M 100 3) := eM7_100_3.trans q100_3_M4
      have q100_49_M7 : id (M7 100 49 = M 100 49) := eM7_100_49.trans q100_49_M4
      have q100_50_M7 : id (M7 100 50 = M 100 50) := eM7_100_50.trans q100_50_M4
      have q100_51_M7 : id (M7 100 51 = M 100 51) := eM7_100_51.trans q100_51_M4
      have q100_52_M7 : id (M7 100 52 = M 100 52) := eM7_100_52.trans q100_52_M4
      have q103_0_M7 : id (M7 103 0 = M 103 0) := eM7_103_0.trans q103_0_M4
      have q103_1_M7 : id (M7 103 1 = M 103 1) := eM7_103_1.trans q103_1_M4
      have q97_12_M7 : (M7 97 12 = M 97 12) := eM7_97_12.trans q97_12_M4
      have q97_17_M7 : (M7 97 17 = M 97 17) := eM7_97_17.trans q97_17_M4
      have q97_33_M7 : (M7 97 33 = M 97 33) := eM7_97_33.trans q97_33_M4
      have q97_10_M7 : (M7 97 10 = M 97 10) := eM7_97_10.trans q97_10_M4
      have wM7_97_44 : M7 97 44 = M4 97 44 := eM7_97_44
      clear eM7_100_0 eM7_100_1 eM7_100_2 eM7_100_3 eM7_100_49 eM7_100_50 eM7_100_51 eM7_100_52 eM7_103_0 eM7_103_1
      have c99M7 : M7 99 = M 99 := (fM70 99 (by decide)).trans c99M4
      obtain ⟨anM7, asM7, a98M7⟩ := pM7
      rw [c98M4] at a98M7
      subst anM7
      have t101 := fM70 101 (by decide)
      have t116 := fM70 116 (by decide)
      refine g_ireturn dX10_night_205 ?_
      exact ⟨iM7, fM7, q99_0_M7, q99_1_M7, q99_2_M7, q99_3_M7, q100_0_M7, q100_1_M7, q100_2_M7, q100_3_M7, q100_49_M7, q100_50_M7, q100_51_M7, q100_52_M7, q103_0_M7, q103_1_M7, q97_12_M7, q97_17_M7, q97_33_M7, q97_10_M7, by omega, fun q => absurd hb2 q, fun _ => ⟨hm, by omega, fun j hj => by rw [t116, x116M4]; exact dn j (by omega)⟩, (by rw [t101]; exact e25z), asM7, a98M7⟩
    · refine g_aload_n (pc' := 169) 2 dX10_night_168 rfl rfl ?_
      refine g_getR (pc' := 172) dX10_night_169 rfl f_X10_74 rfl rfl ?_
      refine g_iload (pc' := 174) 1 dX10_night_172 rfl rfl ?_
      refine g_aload_n (pc' := 175) 2 dX10_night_174 rfl rfl ?_
      refine g_iload (pc' := 177) 1 dX10_night_175 rfl rfl ?_
      refine g_iconst (pc' := 178) dX10_night_177 rfl ?_
      refine g_idivP (pc' := 179) ⟨by omega, by omega⟩ (by decide) (by omega) (by omega) dX10_night_178 rfl ?_
      refine g_iload (pc' := 181) 1 dX10_night_179 rfl rfl ?_
      refine g_iconst (pc' := 182) dX10_night_181 rfl ?_
      refine g_iremP (pc' := 183) ⟨by omega, by omega⟩ (by decide) (by omega) (by omega) dX10_night_182 rfl ?_
      refine g_callVip (pc' := 186) (As := [vi (k / 4), vi (k % 4)]) (b := 97) (S := [vi k, vr X 116]) dX10_night_183 rfl m_X10_112 w_X10_tasteOf (c_X10_tasteOf_x X M1 ic1 (k / 4) ⟨by omega, by omega⟩ (k % 4) ⟨by omega, by omega⟩ (by omega) (by omega)) rfl ⟨_, _, _, rfl, rfl, rfl⟩ (by decide) (by decide) rfl (Nat.le_of_ble_eq_true rfl) (fun z9 q8 => ?_)
      have tq := q8.2
      have tqb := q8.1
      clear q8
      refine g_iast (pc' := 187) dX10_night_186 rfl rfl (by omega) (by omega) ⟨by omega, by omega⟩ (fun M10 hM10 => ?_)
      have iM10 : IM M10 := IM.wr ic1 hM10 (by unfold okv; first | decide | omega)
      have fM10 : Fr (fun c => c = 97 ∨ c = 98 ∨ c = 101 ∨ c = 104 ∨ c = 105 ∨ c = 116) M M10 := Fr.wr fr1 hM10 (by first | decide | omega | (dsimp only; omega))
      have q99_0_M10 : (M10 99 0 = M 99 0) := (show M10 99 0 = M1 99 0 by rw [hM10]; exact mu_ne _ _ (by first | decide | omega)).trans q99_0
      have q99_1_M10 : (M10 99 1 = M 99 1) := (show M10 99 1 = M1 99 1 by rw [hM10]; exact mu_ne _ _ (by first | decide | omega)).trans q99_1
      have q99_2_M10 : (M10 99 2 = M 99 2) := (show M10 99 2 = M1 99 2 by rw [hM10]; exact mu_ne _ _ (by first | decide | omega)).trans q99_2
      have q99_3_M10 : (M10 99 3 = M 99 3) := (show M10 99 3 = M1 99 3 by rw [hM10]; exact mu_ne _ _ (by first | decide | omega)).trans q99_3
      have q100_0_M10 : id (M10 100 0 = M 100 0) := (show M10 100 0 = M1 100 0 by rw [hM10]; exact mu_ne _ _ (by first | decide | omega)).trans q100_0
      have q100_1_M10 : id (M10 100 1 = M 100 1) := (show M10 100 1 = M1 100 1 by rw [hM10]; exact mu_ne _ _ (by first | decide | omega)).trans q100_1
      have q100_2_M10 : id (M10 100 2 = M 100 2) := (show M10 100 2 = M1 100 2 by rw [hM10]; exact mu_ne _ _ (by first | decide | omega)).trans q100_2
      have q100_3_M10 : id (M10 100 3 = M 100 3) := (show M10 100 3 = M1 100 3 by rw [hM10]; exact mu_ne _ _ (by first | decide | omega)).trans q100_3
      have q100_49_M10 : id (M10 100 49 = M 100 49) := (show M10 100 49 = M1 100 49 by rw [hM10]; exact mu_ne _ _ (by first | decide | omega)).trans q100_49
      have q100_50_M10 : id (M10 100 50 = M 100 50) := (show M10 100 50 = M1 100 50 by rw [hM10]; exact mu_ne _ _ (by first | decide | omega)).trans q100_50
      have q100_51_M10 : id (M10 100 51 = M 100 51) := (show M10 100 51 = M1 100 51 by rw [hM10]; exact mu_ne _ _ (by first | decide | omega)).trans q100_51
      have q100_52_M10 : id (M10 100 52 = M 100 52) := (show M10 100 52 = M1 100 52 by rw [hM10]; exact mu_ne _ _ (by first | decide | omega)).trans q100_52
      have q103_0_M10 : id (M10 103 0 = M 103 0) := (show M10 103 0 = M1 103 0 by rw [hM10]; exact mu_ne _ _ (by first | decide | omega)).trans q103_0
      have q103_1_M10 : id (M10 103 1 = M 103 1) := (show M10 103 1 = M1 103 1 by rw [hM10]; exact mu_ne _ _ (by first | decide | omega)).trans q103_1
      have q97_12_M10 : (M10 97 12 = M 97 12) := (show M10 97 12 = M1 97 12 by rw [hM10]; exact mu_ne _ _ (by first | decide | omega)).trans q97_12
      have q97_17_M10 : (M10 97 17 = M 97 17) := (show M10 97 17 = M1 97 17 by rw [hM10]; exact mu_ne _ _ (by first | decide | omega)).trans q97_17
      have q97_33_M10 : (M10 97 33 = M 97 33) := (show M10 97 33 = M1 97 33 by rw [hM10]; exact mu_ne _ _ (by first | decide | omega)).trans q97_33
      have q97_10_M10 : (M10 97 10 = M 97 10) := (show M10 97 10 = M1 97 10 by rw [hM10]; exact mu_ne _ _ (by first | decide | omega)).trans q97_10
      have q97_1_M10 : (M10 97 1 = M 97 1) := (show M10 97 1 = M1 97 1 by rw [hM10]; exact mu_ne _ _ (by first | decide | omega)).trans q97_1
      have wM10_97_42 : M10 97 42 = M1 97 42 := by rw [hM10]; exact mu_ne _ _ (by first | decide | omega)
      have wM10_97_44 : M10 97 44 = M1 97 44 := by rw [hM10]; exact mu_ne _ _ (by first | decide | omega)
      have knM10 : ∀ j : Nat, j < 25 → M10 104 (275 + j) = M 101 j := fun j hj => by rw [hM10, mu_cell _ _ (by decide)]; exact kn j hj
      have c98M10 : M10 98 = M 98 := ((show M10 98 = M1 98 by rw [hM10]; exact mu_cell _ _ (by decide))).trans k98
      have c99M10 : M10 99 = M 99 := ((show M10 99 = M1 99 by rw [hM10]; exact mu_cell _ _ (by decide))).trans k99
      have dnM10 := wst (Q := fun j => tsM (ntM (fun j => M 99 (4 + j)) (fun j => M 99 (10 + j)) (M 101) (M 99 0) (M 99 1) a (ntK (M 99 0) (M 99 1) b)) ((j : Int) / 4) ((j : Int) % 4)) dn hM10 rfl h0 (by rw [tq, tsM_cg e25 (by omega) (by omega), show ((k.toNat : Nat) : Int) = k by omega])
      have e25M10 : E25 (ntM (fun j => M 99 (4 + j)) (fun j => M 99 (10 + j)) (M 101) (M 99 0) (M 99 1) a (ntK (M 99 0) (M 99 1) b)) (M10 101) := by rw [hM10, mu_cell _ _ (by decide)]; exact e25
      refine g_iinc (pc' := 190) (L' := [(4, vi (k + 1)), (3, vi md), (0, vr X 97)]) 1 dX10_night_187 rfl rfl (by decide) rfl ?_
      refine g_goto (tgt := 157) dX10_night_190 rfl ?_
      refine g_sub [1, 0, 2] rfl ?_
      exact ih _ (by omega) md (k + 1) M10 iM10 fM10 q99_0_M10 q99_1_M10 q99_2_M10 q99_3_M10 q100_0_M10 q100_1_M10 q100_2_M10 q100_3_M10 q100_49_M10 q100_50_M10 q100_51_M10 q100_52_M10 q103_0_M10 q103_1_M10 q97_12_M10 q97_17_M10 q97_33_M10 q97_10_M10 q97_1_M10 knM10 c98M10 c99M10 hm (by omega) (by omega) (by omega) (by omega) (by omega) e25M10 dnM10 rfl
set_option maxHeartbeats 4000000 in
set_option maxRecDepth 100000 in
theorem l_X10_night_x_53 (X : Cx) (M : Mm) (hi : IM M) (a : Int) (ha : inI a) (b : Int) (hb : inI b) : ∀ (kk : Nat) (md : Int) (k : Int) (M1 : Mm) (ic1 : IM M1) (fr1 : Fr (fun c => c = 97 ∨ c = 98 ∨ c = 101 ∨ c = 104 ∨ c = 105 ∨ c = 116) M M1) (q99_0 : (M1 99 0 = M 99 0)) (q99_1 : (M1 99 1 = M 99 1)) (q99_2 : (M1 99 2 = M 99 2)) (q99_3 : (M1 99 3 = M 99 3)) (q100_0 : id (M1 100 0 = M 100 0)) (q100_1 : id (M1 100 1 = M 100 1)) (q100_2 : id (M1 100 2 = M 100 2)) (q100_3 : id (M1 100 3 = M 100 3)) (q100_49 : id (M1 100 49 = M 100 49)) (q100_50 : id (M1 100 50 = M 100 50)) (q100_51 : id (M1 100 51 = M 100 51)) (q100_52 : id (M1 100 52 = M 100 52)) (q103_0 : id (M1 103 0 = M 103 0)) (q103_1 : id (M1 103 1 = M 103 1)) (q97_12 : (M1 97 12 = M 97 12)) (q97_17 : (M1 97 17 = M 97 17)) (q97_33 : (M1 97 33 = M 97 33)) (q97_10 : (M1 97 10 = M 97 10)) (q97_1 : (M1 97 1 = M 97 1)) (kn : ∀ j : Nat, j < 25 → M1 104 (275 + j) = M 101 j) (k98 : M1 98 = M 98) (k99 : M1 99 = M 99) (k116 : M1 116 = M 116) (hm : md = ntC (fun j => M 99 (4 + j)) (fun j => M 99 (10 + j)) (M 101) (M 99 0) (M 99 1) a k.toNat) (h0 : 0 ≤ k) (h1 : k ≤ b) (hk0 : (M 99 0 ≤ 0 ∨ M 99 1 ≤ 0) → k = 0) (hst : 0 ≤ M1 97 42 ∧ M1 97 42 ≤ 1000003) (hsd : M1 97 42 = ntD a (3 * k.toNat)) (hb2 : (0 ≤ a ∧ a ≤ 1000000) ∧ (1 ≤ b ∧ b ≤ 20)) (e25 : E25 (ntM (fun j => M 99 (4 + j)) (fun j => M 99 (10 + j)) (M 101) (M 99 0) (M 99 1) a k.toNat) (M1 101)), (20 - k).toNat = kk → G X 12 RX10 cX10_night 7 (some .int) (Qi (fun r M1 => IM M1 ∧ Fr (fun c => c = 97 ∨ c = 98 ∨ c = 101 ∨ c = 104 ∨ c = 105 ∨ c = 116) M M1 ∧ M1 99 0 = M 99 0 ∧ M1 99 1 = M 99 1 ∧ M1 99 2 = M 99 2 ∧ M1 99 3 = M 99 3 ∧ M1 100 0 = M 100 0 ∧ M1 100 1 = M 100 1 ∧ M1 100 2 = M 100 2 ∧ M1 100 3 = M 100 3 ∧ M1 100 49 = M 100 49 ∧ M1 100 50 = M 100 50 ∧ M1 100 51 = M 100 51 ∧ M1 100 52 = M 100 52 ∧ M1 103 0 = M 103 0 ∧ M1 103 1 = M 103 1 ∧ M1 97 12 = M 97 12 ∧ M1 97 17 = M 97 17 ∧ M1 97 33 = M 97 33 ∧ M1 97 10 = M 97 10 ∧ ((-6 ≤ r ∧ r ≤ 60) ∧ (¬ ((0 ≤ a ∧ a ≤ 1000000) ∧ (1 ≤ b ∧ b ≤ 20)) → r = -1 ∧ M1 116 = M 116 ∧ M1 97 44 = M 97 44) ∧ (((0 ≤ a ∧ a ≤ 1000000) ∧ (1 ≤ b ∧ b ≤ 20)) → r = ntC (fun j => M 99 (4 + j)) (fun j => M 99 (10 + j)) (M 101) (M 99 0) (M 99 1) a (ntK (M 99 0) (M 99 1) b) ∧ M1 97 44 = M 99 0 ∧ ∀ j : Nat, (j : Int) < 4 * M 99 0 → M1 116 j = tsM (ntM (fun j => M 99 (4 + j)) (fun j => M 99 (10 + j)) (M 101) (M 99 0) (M 99 1) a (ntK (M 99 0) (M 99 1) b)) ((j : Int) / 4) ((j : Int) % 4)) ∧ E25 (M 101) (M1 101) ∧ M1 97 1 = ngv r ∧ M1 98 = telF (M 98) r))) 53 [(3, vi md), (4, vi k), (0, vr X 97), (2, vi b)] [] M1 := by
  intro kk
  induction kk using Nat.strongRecOn with
  | ind kk ih =>
    intro md k M1 ic1 fr1 q99_0 q99_1 q99_2 q99_3 q100_0 q100_1 q100_2 q100_3 q100_49 q100_50 q100_51 q100_52 q103_0 q103_1 q97_12 q97_17 q97_33 q97_10 q97_1 kn k98 k99 k116 hm h0 h1 hk0 hst hsd hb2 e25 hmes
    have p0 := hi.1.1
    have p1 := hi.1.2.1
    have p2 := hi.1.2.2.1
    have p3 := hi.1.2.2.2.1
    have p12 := hi.2.2.2.1
    have cb := ntC_b (z := (fun j => M 99 (4 + j))) (W := (fun j => M 99 (10 + j))) (m := M 101) (n := M 99 0) (c := M 99 1) (s := a) k.toNat
    refine g_iload (pc' := 55) 1 dX10_night_53 rfl rfl ?_
    refine g_iload_n (pc' := 56) 3 dX10_night_55 rfl rfl ?_
    refine g_ic_ge (pc' := 59) (tgt := 144) ⟨by omega, by omega⟩ hb dX10_night_56 rfl rfl (fun c1 => ?_) (fun c1 => ?_)
    · refine g_aload_n (pc' := 145) 2 dX10_night_144 rfl rfl ?_
      refine g_aload_n (pc' := 146) 2 dX10_night_145 rfl rfl ?_
      refine g_getR (pc' := 149) dX10_night_146 rfl f_X10_13 rfl rfl ?_
      refine g_iconst (pc' := 150) dX10_night_149 rfl ?_
      refine g_iald (pc' := 151) dX10_night_150 rfl rfl (by decide) (by decide) (fun v2 ev2 rv2 => ?_)
      have ev2 : v2 = M1 99 0 := ev2
      have bv2 : 0 ≤ v2 ∧ v2 ≤ 6 := by rw [ev2]; exact ic1.1.1
      have av2 : v2 = M 99 0 := ev2.trans q99_0
      have kv2 : v2 = M 99 0 := ev2.trans (congrFun k99 _)
      refine g_putI (pc' := 154) dX10_night_151 rfl p_X10_411 rfl rfl rv2 (fun M3 hM3 => ?_)
      have iM3 : IM M3 := IM.wr ic1 hM3 (by unfold okv; first | decide | omega)
      have fM3 : Fr (fun c => c = 97 ∨ c = 98 ∨ c = 101 ∨ c = 104 ∨ c = 105 ∨ c = 116) M M3 := Fr.wr fr1 hM3 (by first | decide | omega | (dsimp only; omega))
      have q99_0_M3 : (M3 99 0 = M 99 0) := (show M3 99 0 = M1 99 0 by rw [hM3]; exact mu_ne _ _ (by first | decide | omega)).trans q99_0
      have q99_1_M3 : (M3 99 1 = M 99 1) := (show M3 99 1 = M1 99 1 by rw [hM3]; exact mu_ne _ _ (by first | decide | omega)).trans q99_1
      have q99_2_M3 : (M3 99 2 = M 99 2) := (show M3 99 2 = M1 99 2 by rw [hM3]; exact mu_ne _ _ (by first | decide | omega)).trans q99_2
      have q99_3_M3 : (M3 99 3 = M 99 3) := (show M3 99 3 = M1 99 3 by rw [hM3]; exact mu_ne _ _ (by first | decide | omega)).trans q99_3
      have q100_0_M3 : id (M3 100 0 = M 100 0) := (show M3 100 0 = M1 100 0 by rw [hM3]; exact mu_ne _ _ (by first | decide | omega)).trans q100_0
      have q100_1_M3 : id (M3 100 1 = M 100 1) := (show M3 100 1 = M1 100 1 by rw [hM3]; exact mu_ne _ _ (by first | decide | omega)).trans q100_1
      have q100_2_M3 : id (M3 100 2 = M 100 2) := (show M3 100 2 = M1 100 2 by rw [hM3]; exact mu_ne _ _ (by first | decide | omega)).trans q100_2
      have q100_3_M3 : id (M3 100 3 = M 100 3) := (show M3 100 3 = M1 100 3 by rw [hM3]; exact mu_ne _ _ (by first | decide | omega)).trans q100_3
      have q100_49_M3 : id (M3 100 49 = M 100 49) := (show M3 100 49 = M1 100 49 by rw [hM3]; exact mu_ne _ _ (by first | decide | omega)).trans q100_49
      have q100_50_M3 : id (M3 100 50 = M 100 50) := (show M3 100 50 = M1 100 50 by rw [hM3]; exact mu_ne _ _ (by first | decide | omega)).trans q100_50
      have q100_51_M3 : id (M3 100 51 = M 100 51) := (show M3 100 51 = M1 100 51 by rw [hM3]; exact mu_ne _ _ (by first | decide | omega)).trans q100_51
      have q100_52_M3 : id (M3 100 52 = M 100 52) := (show M3 100 52 = M1 100 52 by rw [hM3]; exact mu_ne _ _ (by first | decide | omega)).trans q100_52
      have q103_0_M3 : id (M3 103 0 = M 103 0) := (show M3 103 0 = M1 103 0 by rw [hM3]; exact mu_ne _ _ (by first | decide | omega)).trans q103_0
      have q103_1_M3 : id (M3 103 1 = M 103 1) := (show M3 103 1 = M1 103 1 by rw [hM3]; exact mu_ne _ _ (by first | decide | omega)).trans q103_1
      have q97_12_M3 : (M3 97 12 = M 97 12) := (show M3 97 12 = M1 97 12 by rw [hM3]; exact mu_ne _ _ (by first | decide | omega)).trans q97_12
      have q97_17_M3 : (M3 97 17 = M 97 17) := (show M3 97 17 = M1 97 17 by rw [hM3]; exact mu_ne _ _ (by first | decide | omega)).trans q97_17
      have q97_33_M3 : (M3 97 33 = M 97 33) := (show M3 97 33 = M1 97 33 by rw [hM3]; exact mu_ne _ _ (by first | decide | omega)).trans q97_33
      have q97_10_M3 : (M3 97 10 = M 97 10) := (show M3 97 10 = M1 97 10 by rw [hM3]; exact mu_ne _ _ (by first | decide | omega)).trans q97_10
      have q97_1_M3 : (M3 97 1 = M 97 1) := (show M3 97 1 = M1 97 1 by rw [hM3]; exact mu_ne _ _ (by first | decide | omega)).trans q97_1
      have wM3_97_42 : M3 97 42 = M1 97 42 := by rw [hM3]; exact mu_ne _ _ (by first | decide | omega)
      have xM3_97_44 : M3 97 44 = v2 := by rw [hM3]; exact mu_at _ _ _ _
      have knM3 : ∀ j : Nat, j < 25 → M3 104 (275 + j) = M 101 j := fun j hj => by rw [hM3, mu_cell _ _ (by decide)]; exact kn j hj
      have c98M3 : M3 98 = M 98 := ((show M3 98 = M1 98 by rw [hM3]; exact mu_cell _ _ (by decide))).trans k98
      have c99M3 : M3 99 = M 99 := ((show M3 99 = M1 99 by rw [hM3]; exact mu_cell _ _ (by decide))).trans k99
      have c116M3 : M3 116 = M 116 := ((show M3 116 = M1 116 by rw [hM3]; exact mu_cell _ _ (by decide))).trans k116
      have e25M3 : E25 (ntM (fun j => M 99 (4 + j)) (fun j => M 99 (10 + j)) (M 101) (M 99 0) (M 99 1) a k.toNat) (M3 101) := by rw [hM3, mu_cell _ _ (by decide)]; exact e25
      refine g_iconst (pc' := 155) dX10_night_154 rfl ?_
      refine g_istore (pc' := 157) (L' := [(4, vi 0), (3, vi md), (0, vr X 97), (2, vi b)]) dX10_night_155 rfl (by decide) rfl ?_
      refine g_sub [1, 0, 2] rfl ?_
      exact l_X10_night_x_157 X M hi a ha b hb _ md 0 M3 iM3 fM3 q99_0_M3 q99_1_M3 q99_2_M3 q99_3_M3 q100_0_M3 q100_1_M3 q100_2_M3 q100_3_M3 q100_49_M3 q100_50_M3 q100_51_M3 q100_52_M3 q103_0_M3 q103_1_M3 q97_12_M3 q97_17_M3 q97_33_M3 q97_10_M3 q97_1_M3 knM3 c98M3 c99M3 (by rw [show (ntK (M 99 0) (M 99 1) b) = k.toNat by first | (rw [ntK_0 (by omega)]; omega) | (rw [ntK_b (by omega)]; omega)]; exact hm) (by omega) (by omega) (by omega) (by omega) (by omega) (by rw [show (ntK (M 99 0) (M 99 1) b) = k.toNat by first | (rw [ntK_0 (by omega)]; omega) | (rw [ntK_b (by omega)]; omega)]; exact e25M3) (fun j hj => absurd hj (by omega)) rfl
    · refine g_aload_n (pc' := 60) 2 dX10_night_59 rfl rfl ?_
      refine g_getR (pc' := 63) dX10_night_60 rfl f_X10_13 rfl rfl ?_
      refine g_iconst (pc' := 64) dX10_night_63 rfl ?_
      refine g_iald (pc' := 65) dX10_night_64 rfl rfl (by decide) (by decide) (fun v4 ev4 rv4 => ?_)
      have ev4 : v4 = M1 99 0 := ev4
      have bv4 : 0 ≤ v4 ∧ v4 ≤ 6 := by rw [ev4]; exact ic1.1.1
      have av4 : v4 = M 99 0 := ev4.trans q99_0
      have kv4 : v4 = M 99 0 := ev4.trans (congrFun k99 _)
      refine g_if_le (pc' := 68) (tgt := 144) rv4 dX10_night_65 rfl rfl (fun c5 => ?_) (fun c5 => ?_)
      · refine g_aload_n (pc' := 145) 2 dX10_night_144 rfl rfl ?_
        refine g_aload_n (pc' := 146) 2 dX10_night_145 rfl rfl ?_
        refine g_getR (pc' := 149) dX10_night_146 rfl f_X10_13 rfl rfl ?_
        refine g_iconst (pc' := 150) dX10_night_149 rfl ?_
        refine g_iald (pc' := 151) dX10_night_150 rfl rfl (by decide) (by decide) (fun v6 ev6 rv6 => ?_)
        have ev6 : v6 = M1 99 0 := ev6
        obtain rfl : v4 = v6 := ev4.trans ev6.symm
        refine g_putI (pc' := 154) dX10_night_151 rfl p_X10_411 rfl rfl rv4 (fun M7 hM7 => ?_)
        have iM7 : IM M7 := IM.wr ic1 hM7 (by unfold okv; first | decide | omega)
        have fM7 : Fr (fun c => c = 97 ∨ c = 98 ∨ c = 101 ∨ c = 104 ∨ c = 105 ∨ c = 116) M M7 := Fr.wr fr1 hM7 (by first | decide | omega | (dsimp only; omega))
        have q99_0_M7 : (M7 99 0 = M 99 0) := (show M7 99 0 = M1 99 0 by rw [hM7]; exact mu_ne _ _ (by first | decide | omega)).trans q99_0
        have q99_1_M7 : (M7 99 1 = M 99 1) := (show M7 99 1 = M1 99 1 by rw [hM7]; exact mu_ne _ _ (by first | decide | omega)).trans q99_1
        have q99_2_M7 : (M7 99 2 = M 99 2) := (show M7 99 2 = M1 99 2 by rw [hM7]; exact mu_ne _ _ (by first | decide | omega)).trans q99_2
        have q99_3_M7 : (M7 99 3 = M 99 3) := (show M7 99 3 = M1 99 3 by rw [hM7]; exact mu_ne _ _ (by first | decide | omega)).trans q99_3
        have q100_0_M7 : id (M7 100 0 = M 100 0) := (show M7 100 0 = M1 100 0 by rw [hM7]; exact mu_ne _ _ (by first | decide | omega)).trans q100_0
        have q100_1_M7 : id (M7 100 1 = M 100 1) := (show M7 100 1 = M1 100 1 by rw [hM7]; exact mu_ne _ _ (by first | decide | omega)).trans q100_1
        have q100_2_M7 : id (M7 100 2 = M 100 2) := (show M7 100 2 = M1 100 2 by rw [hM7]; exact mu_ne _ _ (by first | decide | omega)).trans q100_2
        have q100_3_M7 : id (M7 100 3 = M 100 3) := (show M7 100 3 = M1 100 3 by rw [hM7]; exact mu_ne _ _ (by first | decide | omega)).trans q100_3
        have q100_49_M7 : id (M7 100 49 = M 100 49) := (show M7 100 49 = M1 100 49 by rw [hM7]; exact mu_ne _ _ (by first | decide | omega)).trans q100_49
        have q100_50_M7 : id (M7 100 50 = M 100 50) := (show M7 100 50 = M1 100 50 by rw [hM7]; exact mu_ne _ _ (by first | decide | omega)).trans q100_50
        have q100_51_M7 : id (M7 100 51 = M 100 51) := (show M7 100 51 = M1 100 51 by rw [hM7]; exact mu_ne _ _ (by first | decide | omega)).trans q100_51
        have q100_52_M7 : id (M7 100 52 = M 100 52) := (show M7 100 52 = M1 100 52 by rw [hM7]; exact mu_ne _ _ (by first | decide | omega)).trans q100_52
        have q103_0_M7 : id (M7 103 0 = M 103 0) := (show M7 103 0 = M1 103 0 by rw [hM7]; exact mu_ne _ _ (by first | decide | omega)).trans q103_0
        have q103_1_M7 : id (M7 103 1 = M 103 1) := (show M7 103 1 = M1 103 1 by rw [hM7]; exact mu_ne _ _ (by first | decide | omega)).trans q103_1
        have q97_12_M7 : (M7 97 12 = M 97 12) := (show M7 97 12 = M1 97 12 by rw [hM7]; exact mu_ne _ _ (by first | decide | omega)).trans q97_12
        have q97_17_M7 : (M7 97 17 = M 97 17) := (show M7 97 17 = M1 97 17 by rw [hM7]; exact mu_ne _ _ (by first | decide | omega)).trans q97_17
        have q97_33_M7 : (M7 97 33 = M 97 33) := (show M7 97 33 = M1 97 33 by rw [hM7]; exact mu_ne _ _ (by first | decide | omega)).trans q97_33
        have q97_10_M7 : (M7 97 10 = M 97 10) := (show M7 97 10 = M1 97 10 by rw [hM7]; exact mu_ne _ _ (by first | decide | omega)).trans q97_10
        have q97_1_M7 : (M7 97 1 = M 97 1) := (show M7 97 1 = M1 97 1 by rw [hM7]; exact mu_ne _ _ (by first | decide | omega)).trans q97_1
        have wM7_97_42 : M7 97 42 = M1 97 42 := by rw [hM7]; exact mu_ne _ _ (by first | decide | omega)
        have xM7_97_44 : M7 97 44 = v4 := by rw [hM7]; exact mu_at _ _ _ _
        have knM7 : ∀ j : Nat, j < 25 → M7 104 (275 + j) = M 101 j := fun j hj => by rw [hM7, mu_cell _ _ (by decide)]; exact kn j hj
        have c98M7 : M7 98 = M 98 := ((show M7 98 = M1 98 by rw [hM7]; exact mu_cell _ _ (by decide))).trans k98
        have c99M7 : M7 99 = M 99 := ((show M7 99 = M1 99 by rw [hM7]; exact mu_cell _ _ (by decide))).trans k99
        have c116M7 : M7 116 = M 116 := ((show M7 116 = M1 116 by rw [hM7]; exact mu_cell _ _ (by decide))).trans k116
        have e25M7 : E25 (ntM (fun j => M 99 (4 + j)) (fun j => M 99 (10 + j)) (M 101) (M 99 0) (M 99 1) a k.toNat) (M7 101) := by rw [hM7, mu_cell _ _ (by decide)]; exact e25
        refine g_iconst (pc' := 155) dX10_night_154 rfl ?_
        refine g_istore (pc' := 157) (L' := [(4, vi 0), (3, vi md), (0, vr X 97), (2, vi b)]) dX10_night_155 rfl (by decide) rfl ?_
        refine g_sub [1, 0, 2] rfl ?_
        exact l_X10_night_x_157 X M hi a ha b hb _ md 0 M7 iM7 fM7 q99_0_M7 q99_1_M7 q99_2_M7 q99_3_M7 q100_0_M7 q100_1_M7 q100_2_M7 q100_3_M7 q100_49_M7 q100_50_M7 q100_51_M7 q100_52_M7 q103_0_M7 q103_1_M7 q97_12_M7 q97_17_M7 q97_33_M7 q97_10_M7 q97_1_M7 knM7 c98M7 c99M7 (by rw [show (ntK (M 99 0) (M 99 1) b) = k.toNat by first | (rw [ntK_0 (by omega)]; omega) | (rw [ntK_b (by omega)]; omega)]; exact hm) (by omega) (by omega) (by omega) (by omega) (by omega) (by rw [show (ntK (M 99 0) (M 99 1) b) = k.toNat by first | (rw [ntK_0 (by omega)]; omega) | (rw [ntK_b (by omega)]; omega)]; exact e25M7) (fun j hj => absurd hj (by omega)) rfl
      · refine g_aload_n (pc' := 69) 2 dX10_night_68 rfl rfl ?_
        refine g_getR (pc' := 72) dX10_night_69 rfl f_X10_13 rfl rfl ?_
        refine g_iconst (pc' := 73) dX10_night_72 rfl ?_
        refine g_iald (pc' := 74) dX10_night_73 rfl rfl (by decide) (by decide) (fun v8 ev8 rv8 => ?_)
        have ev8 : v8 = M1 99 1 := ev8
        have bv8 : 0 ≤ v8 ∧ v8 ≤ 3 := by rw [ev8]; exact ic1.1.2.1
        have av8 : v8 = M 99 1 := ev8.trans q99_1
        have kv8 : v8 = M 99 1 := ev8.trans (congrFun k99 _)
        refine g_if_le (pc' := 77) (tgt := 144) rv8 dX10_night_74 rfl rfl (fun c9 => ?_) (fun c9 => ?_)
        · refine g_aload_n (pc' := 145) 2 dX10_night_144 rfl rfl ?_
          refine g_aload_n (pc' := 146) 2 dX10_night_145 rfl rfl ?_
          refine g_getR (pc' := 149) dX10_night_146 rfl f_X10_13 rfl rfl ?_
          refine g_iconst (pc' := 150) dX10_night_149 rfl ?_
          refine g_iald (pc' := 151) dX10_night_150 rfl rfl (by decide) (by decide) (fun v10 ev10 rv10 => ?_)
          have ev10 : v10 = M1 99 0 := ev10
          obtain rfl : v4 = v10 := ev4.trans ev10.symm
          refine g_putI (pc' := 154) dX10_night_151 rfl p_X10_411 rfl rfl rv4 (fun M11 hM11 => ?_)
          have iM11 : IM M11 := IM.wr ic1 hM11 (by unfold okv; first | decide | omega)
          have fM11 : Fr (fun c => c = 97 ∨ c = 98 ∨ c = 101 ∨ c = 104 ∨ c = 105 ∨ c = 116) M M11 := Fr.wr fr1 hM11 (by first | decide | omega | (dsimp only; omega))
          have q99_0_M11 : (M11 99 0 = M 99 0) := (show M11 99 0 = M1 99 0 by rw [hM11]; exact mu_ne _ _ (by first | decide | omega)).trans q99_0
          have q99_1_M11 : (M11 99 1 = M 99 1) := (show M11 99 1 = M1 99 1 by rw [hM11]; exact mu_ne _ _ (by first | decide | omega)).trans q99_1
          have q99_2_M11 : (M11 99 2 = M 99 2) := (show M11 99 2 = M1 99 2 by rw [hM11]; exact mu_ne _ _ (by first | decide | omega)).trans q99_2
          have q99_3_M11 : (M11 99 3 = M 99 3) := (show M11 99 3 = M1 99 3 by rw [hM11]; exact mu_ne _ _ (by first | decide | omega)).trans q99_3
          have q100_0_M11 : id (M11 100 0 = M 100 0) := (show M11 100 0 = M1 100 0 by rw [hM11]; exact mu_ne _ _ (by first | decide | omega)).trans q100_0
          have q100_1_M11 : id (M11 100 1 = M 100 1) := (show M11 100 1 = M1 100 1 by rw [hM11]; exact mu_ne _ _ (by first | decide | omega)).trans q100_1
          have q100_2_M11 : id (M11 100 2 = M 100 2) := (show M11 100 2 = M1 100 2 by rw [hM11]; exact mu_ne _ _ (by first | decide | omega)).trans q100_2
          have q100_3_M11 : id (M11 100 3 = M 100 3) := (show M11 100 3 = M1 100 3 by rw [hM11]; exact mu_ne _ _ (by first | decide | omega)).trans q100_3
          have q100_49_M11 : id (M11 100 49 = M 100 49) := (show M11 100 49 = M1 100 49 by rw [hM11]; exact mu_ne _ _ (by first | decide | omega)).trans q100_49
          have q100_50_M11 : id (M11 100 50 = M 100 50) := (show M11 100 50 = M1 100 50 by rw [hM11]; exact mu_ne _ _ (by first | decide | omega)).trans q100_50
          have q100_51_M11 : id (M11 100 51 = M 100 51) := (show M11 100 51 = M1 100 51 by rw [hM11]; exact mu_ne _ _ (by first | decide | omega)).trans q100_51
          have q100_52_M11 : id (M11 100 52 = M 100 52) := (show M11 100 52 = M1 100 52 by rw [hM11]; exact mu_ne _ _ (by first | decide | omega)).trans q100_52
          have q103_0_M11 : id (M11 103 0 = M 103 0) := (show M11 103 0 = M1 103 0 by rw [hM11]; exact mu_ne _ _ (by first | decide | omega)).trans q103_0
          have q103_1_M11 : id (M11 103 1 = M 103 1) := (show M11 103 1 = M1 103 1 by rw [hM11]; exact mu_ne _ _ (by first | decide | omega)).trans q103_1
          have q97_12_M11 : (M11 97 12 = M 97 12) := (show M11 97 12 = M1 97 12 by rw [hM11]; exact mu_ne _ _ (by first | decide | omega)).trans q97_12
          have q97_17_M11 : (M11 97 17 = M 97 17) := (show M11 97 17 = M1 97 17 by rw [hM11]; exact mu_ne _ _ (by first | decide | omega)).trans q97_17
          have q97_33_M11 : (M11 97 33 = M 97 33) := (show M11 97 33 = M1 97 33 by rw [hM11]; exact mu_ne _ _ (by first | decide | omega)).trans q97_33
          have q97_10_M11 : (M11 97 10 = M 97 10) := (show M11 97 10 = M1 97 10 by rw [hM11]; exact mu_ne _ _ (by first | decide | omega)).trans q97_10
          have q97_1_M11 : (M11 97 1 = M 97 1) := (show M11 97 1 = M1 97 1 by rw [hM11]; exact mu_ne _ _ (by first | decide | omega)).trans q97_1
          have wM11_97_42 : M11 97 42 = M1 97 42 := by rw [hM11]; exact mu_ne _ _ (by first | decide | omega)
          have xM11_97_44 : M11 97 44 = v4 := by rw [hM11]; exact mu_at _ _ _ _
          have knM11 : ∀ j : Nat, j < 25 → M11 104 (275 + j) = M 101 j := fun j hj => by rw [hM11, mu_cell _ _ (by decide)]; exact kn j hj
          have c98M11 : M11 98 = M 98 := ((show M11 98 = M1 98 by rw [hM11]; exact mu_cell _ _ (by decide))).trans k98
          have c99M11 : M11 99 = M 99 := ((show M11 99 = M1 99 by rw [hM11]; exact mu_cell _ _ (by decide))).trans k99
          have c116M11 : M11 116 = M 116 := ((show M11 116 = M1 116 by rw [hM11]; exact mu_cell _ _ (by decide))).trans k116
          have e25M11 : E25 (ntM (fun j => M 99 (4 + j)) (fun j => M 99 (10 + j)) (M 101) (M 99 0) (M 99 1) a k.toNat) (M11 101) := by rw [hM11, mu_cell _ _ (by decide)]; exact e25
          refine g_iconst (pc' := 155) dX10_night_154 rfl ?_
          refine g_istore (pc' := 157) (L' := [(4, vi 0), (3, vi md), (0, vr X 97), (2, vi b)]) dX10_night_155 rfl (by decide) rfl ?_
          refine g_sub [1, 0, 2] rfl ?_
          exact l_X10_night_x_157 X M hi a ha b hb _ md 0 M11 iM11 fM11 q99_0_M11 q99_1_M11 q99_2_M11 q99_3_M11 q100_0_M11 q100_1_M11 q100_2_M11 q100_3_M11 q100_49_M11 q100_50_M11 q100_51_M11 q100_52_M11 q103_0_M11 q103_1_M11 q97_12_M11 q97_17_M11 q97_33_M11 q97_10_M11 q97_1_M11 knM11 c98M11 c99M11 (by rw [show (ntK (M 99 0) (M 99 1) b) = k.toNat by first | (rw [ntK_0 (by omega)]; omega) | (rw [ntK_b (by omega)]; omega)]; exact hm) (by omega) (by omega) (by omega) (by omega) (by omega) (by rw [show (ntK (M 99 0) (M 99 1) b) = k.toNat by first | (rw [ntK_0 (by omega)]; omega) | (rw [ntK_b (by omega)]; omega)]; exact e25M11) (fun j hj => absurd hj (by omega)) rfl
        · refine g_aload_n (pc' := 78) 2 dX10_night_77 rfl rfl ?_
          refine g_aload_n (pc' := 79) 2 dX10_night_78 rfl rfl ?_
          refine g_getR (pc' := 82) dX10_night_79 rfl f_X10_13 rfl rfl ?_
          refine g_iconst (pc' := 83) dX10_night_82 rfl ?_
          refine g_iald (pc' := 84) dX10_night_83 rfl rfl (by decide) (by decide) (fun v12 ev12 rv12 => ?_)
          have ev12 : v12 = M1 99 0 := ev12
          obtain rfl : v4 = v12 := ev4.trans ev12.symm
          refine g_callVi (pc' := 87) (As := [vi v4]) (b := 97) (S := []) dX10_night_84 rfl m_X10_408 w_X10_draw (c_X10_draw_x X M1 ic1 v4 rv4 (by omega) (by omega)) rfl ⟨_, _, _, rfl, rfl, rfl⟩ (by decide) (by decide) rfl (Nat.le_of_ble_eq_true rfl) (fun z14 M15 q13 => ?_)
          obtain ⟨iM15, fM150, eM15_99_0, eM15_99_1, eM15_99_2, eM15_99_3, eM15_100_0, eM15_100_1, eM15_100_2, eM15_100_3, eM15_100_49, eM15_100_50, eM15_100_51, eM15_100_52, eM15_103_0, eM15_103_1, eM15_97_12, eM15_97_17, eM15_97_33, eM15_97_10, eM15_97_44, eM15_97_1, pM15⟩ := q13
          have fM15 : Fr (fun c => c = 97 ∨ c = 98 ∨ c = 101 ∨ c = 104 ∨ c = 105 ∨ c = 116) M M15 := Fr.tr fr1 fM150 fi_36
          have q99_0_M15 : (M15 99 0 = M 99 0) := eM15_99_0.trans q99_0
          have q99_1_M15 : (M15 99 1 = M 99 1) := eM15_99_1.trans q99_1
          have q99_2_M15 : (M15 99 2 = M 99 2) := eM15_99_2.trans q99_2
          have q99_3_M15 : (M15 99 3 = M 99 3) := eM15_99_3.trans q99_3
          have q100_0_M15 : id (M15 100 0 = M 100 0) := eM15_100_0.trans q100_0
          have q100_1_M15 : id (M15 100 1 = M 100 1) := eM15_100_1.trans q100_1
          have q100_2_M15 : id (M15 100 2 = M 100 2) := eM15_100_2.trans q100_2
          have q100_3_M15 : id (M15 100 3 = M 100 3) := eM15_100_3.trans q100_3
          have q100_49_M15 : id (M15 100 49 = M 100 49) := eM15_100_49.trans q100_49
          have q100_50_M15 : id (M15 100 50 = M 100 50) := eM15_100_50.trans q100_50
          have q100_51_M15 : id (M15 100 51 = M 100 51) := eM15_100_51.trans q100_51
          have q100_52_M15 : id (M15 100 52 = M 100 52) := eM15_100_52.trans q100_52
          have q103_0_M15 : id (M15 103 0 = M 103 0) := eM15_103_0.trans q103_0
          have q103_1_M15 : id (M15 103 1 = M 103 1) := eM15_103_1.trans q103_1
          have q97_12_M15 : (M15 97 12 = M 97 12) := eM15_97_12.trans q97_12
          have q97_17_M15 : (M15 97 17 = M 97 17) := eM15_97_17.trans q97_17
          have q97_33_M15 : (M15 97 33 = M 97 33) := eM15_97_33.trans q97_33
          have q97_10_M15 : (M15 97 10 = M 97 10) := eM15_97_10.trans q97_10
          have q97_1_M15 : (M15 97 1 = M 97 1) := eM15_97_1.trans q97_1
          have wM15_97_44 : M15 97 44 = M1 97 44 := eM15_97_44
          clear eM15_100_0 eM15_100_1 eM15_100_2 eM15_100_3 eM15_100_49 eM15_100_50 eM15_100_51 eM15_100_52 eM15_103_0 eM15_103_1
          have knM15 : ∀ j : Nat, j < 25 → M15 104 (275 + j) = M 101 j := fun j hj => (congrFun (fM150 104 (by omega)) (275 + j)).trans (kn j hj)
          have c98M15 : M15 98 = M 98 := (fM150 98 (by decide)).trans k98
          have c99M15 : M15 99 = M 99 := (fM150 99 (by decide)).trans k99
          have c116M15 : M15 116 = M 116 := (fM150 116 (by decide)).trans k116
          obtain ⟨db1, ds1, dr1⟩ := pM15
          have nb1 := ndr_b (M1 97 42)
          rw [← ds1] at dr1 nb1
          have sd1 : M15 97 42 = ntD a (3 * k.toNat + 1) := by rw [ds1, hsd]; rfl
          rw [sd1] at dr1
          have e25M15 : E25 (ntM (fun j => M 99 (4 + j)) (fun j => M 99 (10 + j)) (M 101) (M 99 0) (M 99 1) a k.toNat) (M15 101) := by rw [fM150 101 (by decide)]; exact e25
          refine g_istore (pc' := 89) (L' := [(5, vi z14), (3, vi md), (4, vi k), (0, vr X 97), (2, vi b)]) dX10_night_87 rfl (by decide) rfl ?_
          refine g_aload_n (pc' := 90) 3 dX10_night_89 rfl rfl ?_
          refine g_aload_n (pc' := 91) 3 dX10_night_90 rfl rfl ?_
          refine g_getR (pc' := 94) dX10_night_91 rfl f_X10_13 rfl rfl ?_
          refine g_iconst (pc' := 95) dX10_night_94 rfl ?_
          refine g_iald (pc' := 96) dX10_night_95 rfl rfl (by decide) (by decide) (fun v16 ev16 rv16 => ?_)
          have ev16 : v16 = M15 99 0 := ev16
          have bv16 : 0 ≤ v16 ∧ v16 ≤ 6 := by rw [ev16]; exact iM15.1.1
          have av16 : v16 = M 99 0 := ev16.trans q99_0_M15
          obtain rfl : v4 = v16 := av4.trans av16.symm
          refine g_callVi (pc' := 99) (As := [vi v4]) (b := 97) (S := []) dX10_night_96 rfl m_X10_408 w_X10_draw (c_X10_draw_x X M15 iM15 v4 rv16 (by omega) (by omega)) rfl ⟨_, _, _, rfl, rfl, rfl⟩ (by decide) (by decide) rfl (Nat.le_of_ble_eq_true rfl) (fun z18 M19 q17 => ?_)
          obtain ⟨iM19, fM190, eM19_99_0, eM19_99_1, eM19_99_2, eM19_99_3, eM19_100_0, eM19_100_1, eM19_100_2, eM19_100_3, eM19_100_49, eM19_100_50, eM19_100_51, eM19_100_52, eM19_103_0, eM19_103_1, eM19_97_12, eM19_97_17, eM19_97_33, eM19_97_10, eM19_97_44, eM19_97_1, pM19⟩ := q17
          have fM19 : Fr (fun c => c = 97 ∨ c = 98 ∨ c = 101 ∨ c = 104 ∨ c = 105 ∨ c = 116) M M19 := Fr.tr fM15 fM190 fi_36
          have q99_0_M19 : (M19 99 0 = M 99 0) := eM19_99_0.trans q99_0_M15
          have q99_1_M19 : (M19 99 1 = M 99 1) := eM19_99_1.trans q99_1_M15
          have q99_2_M19 : (M19 99 2 = M 99 2) := eM19_99_2.trans q99_2_M15
          have q99_3_M19 : (M19 99 3 = M 99 3) := eM19_99_3.trans q99_3_M15
          have q100_0_M19 : id (M19 100 0 = M 100 0) := eM19_100_0.trans q100_0_M15
          have q100_1_M19 : id (M19 100 1 = M 100 1) := eM19_100_1.trans q100_1_M15
          have q100_2_M19 : id (M19 100 2 = M 100 2) := eM19_100_2.trans q100_2_M15
          have q100_3_M19 : id (M19 100 3 = M 100 3) := eM19_100_3.trans q100_3_M15
          have q100_49_M19 : id (M19 100 49 = M 100 49) := eM19_100_49.trans q100_49_M15
          have q100_50_M19 : id (M19 100 50 = M 100 50) := eM19_100_50.trans q100_50_M15
          have q100_51_M19 : id (M19 100 51 = M 100 51) := eM19_100_51.trans q100_51_M15
          have q100_52_M19 : id (M19 100 52 = M 100 52) := eM19_100_52.trans q100_52_M15
          have q103_0_M19 : id (M19 103 0 = M 103 0) := eM19_103_0.trans q103_0_M15
          have q103_1_M19 : id (M19 103 1 = M 103 1) := eM19_103_1.trans q103_1_M15
          have q97_12_M19 : (M19 97 12 = M 97 12) := eM19_97_12.trans q97_12_M15
          have q97_17_M19 : (M19 97 17 = M 97 17) := eM19_97_17.trans q97_17_M15
          have q97_33_M19 : (M19 97 33 = M 97 33) := eM19_97_33.trans q97_33_M15
          have q97_10_M19 : (M19 97 10 = M 97 10) := eM19_97_10.trans q97_10_M15
          have q97_1_M19 : (M19 97 1 = M 97 1) := eM19_97_1.trans q97_1_M15
          have wM19_97_44 : M19 97 44 = M15 97 44 := eM19_97_44
          clear eM19_100_0 eM19_100_1 eM19_100_2 eM19_100_3 eM19_100_49 eM19_100_50 eM19_100_51 eM19_100_52 eM19_103_0 eM19_103_1
          have knM19 : ∀ j : Nat, j < 25 → M19 104 (275 + j) = M 101 j := fun j hj => (congrFun (fM190 104 (by omega)) (275 + j)).trans (knM15 j hj)
          have c98M19 : M19 98 = M 98 := (fM190 98 (by decide)).trans c98M15
          have c99M19 : M19 99 = M 99 := (fM190 99 (by decide)).trans c99M15
          have c116M19 : M19 116 = M 116 := (fM190 116 (by decide)).trans c116M15
          obtain ⟨db2, ds2, dr2⟩ := pM19
          have nb2 := ndr_b (M15 97 42)
          rw [← ds2] at dr2 nb2
          have sd2 : M19 97 42 = ntD a (3 * k.toNat + 2) := by rw [ds2, sd1]; rfl
          rw [sd2] at dr2
          have e25M19 : E25 (ntM (fun j => M 99 (4 + j)) (fun j => M 99 (10 + j)) (M 101) (M 99 0) (M 99 1) a k.toNat) (M19 101) := by rw [fM190 101 (by decide)]; exact e25M15
          refine g_istore (pc' := 101) (L' := [(6, vi z18), (5, vi z14), (3, vi md), (4, vi k), (0, vr X 97), (2, vi b)]) dX10_night_99 rfl (by decide) rfl ?_
          refine g_iload_n (pc' := 102) 2 dX10_night_101 rfl rfl ?_
          refine g_aload_n (pc' := 103) 4 dX10_night_102 rfl rfl ?_
          refine g_iload (pc' := 105) 1 dX10_night_103 rfl rfl ?_
          refine g_iload (pc' := 107) 0 dX10_night_105 rfl rfl ?_
          refine g_aload_n (pc' := 108) 4 dX10_night_107 rfl rfl ?_
          refine g_getR (pc' := 111) dX10_night_108 rfl f_X10_13 rfl rfl ?_
          refine g_bipush (pc' := 113) (v := 10) dX10_night_111 rfl (by decide) ?_
          refine g_aload_n (pc' := 114) 4 dX10_night_113 rfl rfl ?_
          refine g_aload_n (pc' := 115) 4 dX10_night_114 rfl rfl ?_
          refine g_getR (pc' := 118) dX10_night_115 rfl f_X10_13 rfl rfl ?_
          refine g_iconst (pc' := 119) dX10_night_118 rfl ?_
          refine g_iald (pc' := 120) dX10_night_119 rfl rfl (by decide) (by decide) (fun v20 ev20 rv20 => ?_)
          have ev20 : v20 = M19 99 1 := ev20
          have bv20 : 0 ≤ v20 ∧ v20 ≤ 3 := by rw [ev20]; exact iM19.1.2.1
          have av20 : v20 = M 99 1 := ev20.trans q99_1_M19
          obtain rfl : v8 = v20 := av8.trans av20.symm
          refine g_callVi (pc' := 123) (As := [vi v8]) (b := 97) (S := [vi 10, vr X 99, vi z18, vi z14, vr X 97, vi md]) dX10_night_120 rfl m_X10_408 w_X10_draw (c_X10_draw_x X M19 iM19 v8 rv20 (by omega) (by omega)) rfl ⟨_, _, _, rfl, rfl, rfl⟩ (by decide) (by decide) rfl (Nat.le_of_ble_eq_true rfl) (fun z22 M23 q21 => ?_)
          obtain ⟨iM23, fM230, eM23_99_0, eM23_99_1, eM23_99_2, eM23_99_3, eM23_100_0, eM23_100_1, eM23_100_2, eM23_100_3, eM23_100_49, eM23_100_50, eM23_100_51, eM23_100_52, eM23_103_0, eM23_103_1, eM23_97_12, eM23_97_17, eM23_97_33, eM23_97_10, eM23_97_44, eM23_97_1, pM23⟩ := q21
          have fM23 : Fr (fun c => c = 97 ∨ c = 98 ∨ c = 101 ∨ c = 104 ∨ c = 105 ∨ c = 116) M M23 := Fr.tr fM19 fM230 fi_36
          have q99_0_M23 : (M23 99 0 = M 99 0) := eM23_99_0.trans q99_0_M19
          have q99_1_M23 : (M23 99 1 = M 99 1) := eM23_99_1.trans q99_1_M19
          have q99_2_M23 : (M23 99 2 = M 99 2) := eM23_99_2.trans q99_2_M19
          have q99_3_M23 : (M23 99 3 = M 99 3) := eM23_99_3.trans q99_3_M19
          have q100_0_M23 : id (M23 100 0 = M 100 0) := eM23_100_0.trans q100_0_M19
          have q100_1_M23 : id (M23 100 1 = M 100 1) := eM23_100_1.trans q100_1_M19
          have q100_2_M23 : id (M23 100 2 = M 100 2) := eM23_100_2.trans q100_2_M19
          have q100_3_M23 : id (M23 100 3 = M 100 3) := eM23_100_3.trans q100_3_M19
          have q100_49_M23 : id (M23 100 49 = M 100 49) := eM23_100_49.trans q100_49_M19
          have q100_50_M23 : id (M23 100 50 = M 100 50) := eM23_100_50.trans q100_50_M19
          have q100_51_M23 : id (M23 100 51 = M 100 51) := eM23_100_51.trans q100_51_M19
          have q100_52_M23 : id (M23 100 52 = M 100 52) := eM23_100_52.trans q100_52_M19
          have q103_0_M23 : id (M23 103 0 = M 103 0) := eM23_103_0.trans q103_0_M19
          have q103_1_M23 : id (M23 103 1 = M 103 1) := eM23_103_1.trans q103_1_M19
          have q97_12_M23 : (M23 97 12 = M 97 12) := eM23_97_12.trans q97_12_M19
          have q97_17_M23 : (M23 97 17 = M 97 17) := eM23_97_17.trans q97_17_M19
          have q97_33_M23 : (M23 97 33 = M 97 33) := eM23_97_33.trans q97_33_M19
          have q97_10_M23 : (M23 97 10 = M 97 10) := eM23_97_10.trans q97_10_M19
          have q97_1_M23 : (M23 97 1 = M 97 1) := eM23_97_1.trans q97_1_M19
          have wM23_97_44 : M23 97 44 = M19 97 44 := eM23_97_44
          clear eM23_100_0 eM23_100_1 eM23_100_2 eM23_100_3 eM23_100_49 eM23_100_50 eM23_100_51 eM23_100_52 eM23_103_0 eM23_103_1
          have knM23 : ∀ j : Nat, j < 25 → M23 104 (275 + j) = M 101 j := fun j hj => (congrFun (fM230 104 (by omega)) (275 + j)).trans (knM19 j hj)
          have c98M23 : M23 98 = M 98 := (fM230 98 (by decide)).trans c98M19
          have c99M23 : M23 99 = M 99 := (fM230 99 (by decide)).trans c99M19
          have c116M23 : M23 116 = M 116 := (fM230 116 (by decide)).trans c116M19
          obtain ⟨db3, ds3, dr3⟩ := pM23
          have nb3 := ndr_b (M19 97 42)
          rw [← ds3] at dr3 nb3
          have sd3 : M23 97 42 = ntD a (3 * k.toNat + 3) := by rw [ds3, sd2]; rfl
          rw [sd3] at dr3
          have e25M23 : E25 (ntM (fun j => M 99 (4 + j)) (fun j => M 99 (10 + j)) (M 101) (M 99 0) (M 99 1) a k.toNat) (M23 101) := by rw [fM230 101 (by decide)]; exact e25M19
          refine g_iadd (pc' := 124) dX10_night_123 rfl ?_
          refine g_iald (pc' := 125) dX10_night_124 rfl rfl (by omega) (by omega) (fun v24 ev24 rv24 => ?_)
          have dv24 : 1 ≤ v24 ∧ v24 ≤ 60 := by rw [ev24]; exact iM23.1.sp (by omega) (by omega)
          have kv24 : v24 = M 99 (10 + z22).toNat := ev24.trans (congrFun c99M23 _)
          have wq : v24 = (fun j => M 99 (10 + j)) (ntD a (3 * k.toNat + 3) % M 99 1).toNat := by
            show v24 = M 99 (10 + (ntD a (3 * k.toNat + 3) % M 99 1).toNat)
            rw [kv24]
            congr 1
            rw [← (show v8 = M 99 1 by omega), ← dr3]
            omega
          refine g_callVi (pc' := 128) (As := [vi z14, vi z18, vi v24]) (b := 97) (S := [vi md]) dX10_night_125 rfl m_X10_139 w_X10_spooned (c_X10_spooned_x X M23 iM23 z14 ⟨by omega, by omega⟩ z18 ⟨by omega, by omega⟩ v24 rv24 (by omega) (by omega) (by omega)) rfl ⟨_, _, _, rfl, rfl, rfl⟩ (by decide) (by decide) rfl (Nat.le_of_ble_eq_true rfl) (fun z26 M27 q25 => ?_)
          obtain ⟨iM27, fM270, pM27⟩ := q25
          have fM27 : Fr (fun c => c = 97 ∨ c = 98 ∨ c = 101 ∨ c = 104 ∨ c = 105 ∨ c = 116) M M27 := Fr.tr fM23 fM270 fi_37
          have q99_0_M27 : (M27 99 0 = M 99 0) := (congrFun (fM270 99 (by first | decide | omega | (dsimp only; omega))) 0).trans q99_0_M23
          have q99_1_M27 : (M27 99 1 = M 99 1) := (congrFun (fM270 99 (by first | decide | omega | (dsimp only; omega))) 1).trans q99_1_M23
          have q99_2_M27 : (M27 99 2 = M 99 2) := (congrFun (fM270 99 (by first | decide | omega | (dsimp only; omega))) 2).trans q99_2_M23
          have q99_3_M27 : (M27 99 3 = M 99 3) := (congrFun (fM270 99 (by first | decide | omega | (dsimp only; omega))) 3).trans q99_3_M23
          have q100_0_M27 : id (M27 100 0 = M 100 0) := (congrFun (fM270 100 (by first | decide | omega | (dsimp only; omega))) 0).trans q100_0_M23
          have q100_1_M27 : id (M27 100 1 = M 100 1) := (congrFun (fM270 100 (by first | decide | omega | (dsimp only; omega))) 1).trans q100_1_M23
          have q100_2_M27 : id (M27 100 2 = M 100 2) := (congrFun (fM270 100 (by first | decide | omega | (dsimp only; omega))) 2).trans q100_2_M23
          have q100_3_M27 : id (M27 100 3 = M 100 3) := (congrFun (fM270 100 (by first | decide | omega | (dsimp only; omega))) 3).trans q100_3_M23
          have q100_49_M27 : id (M27 100 49 = M 100 49) := (congrFun (fM270 100 (by first | decide | omega | (dsimp only; omega))) 49).trans q100_49_M23
          have q100_50_M27 : id (M27 100 50 = M 100 50) := (congrFun (fM270 100 (by first | decide | omega | (dsimp only; omega))) 50).trans q100_50_M23
          have q100_51_M27 : id (M27 100 51 = M 100 51) := (congrFun (fM270 100 (by first | decide | omega | (dsimp only; omega))) 51).trans q100_51_M23
          have q100_52_M27 : id (M27 100 52 = M 100 52) := (congrFun (fM270 100 (by first | decide | omega | (dsimp only; omega))) 52).trans q100_52_M23
          have q103_0_M27 : id (M27 103 0 = M 103 0) := (congrFun (fM270 103 (by first | decide | omega | (dsimp only; omega))) 0).trans q103_0_M23
          have q103_1_M27 : id (M27 103 1 = M 103 1) := (congrFun (fM270 103 (by first | decide | omega | (dsimp only; omega))) 1).trans q103_1_M23
          have q97_12_M27 : (M27 97 12 = M 97 12) := (congrFun (fM270 97 (by first | decide | omega | (dsimp only; omega))) 12).trans q97_12_M23
          have q97_17_M27 : (M27 97 17 = M 97 17) := (congrFun (fM270 97 (by first | decide | omega | (dsimp only; omega))) 17).trans q97_17_M23
          have q97_33_M27 : (M27 97 33 = M 97 33) := (congrFun (fM270 97 (by first | decide | omega | (dsimp only; omega))) 33).trans q97_33_M23
          have q97_10_M27 : (M27 97 10 = M 97 10) := (congrFun (fM270 97 (by first | decide | omega | (dsimp only; omega))) 10).trans q97_10_M23
          have q97_1_M27 : (M27 97 1 = M 97 1) := (congrFun (fM270 97 (by first | decide | omega | (dsimp only; omega))) 1).trans q97_1_M23
          have wM27_97_42 : M27 97 42 = M23 97 42 := (congrFun (fM270 97 (by first | decide | omega | (dsimp only; omega))) 42)
          have wM27_97_44 : M27 97 44 = M23 97 44 := (congrFun (fM270 97 (by first | decide | omega | (dsimp only; omega))) 44)
          have knM27 : ∀ j : Nat, j < 25 → M27 104 (275 + j) = M 101 j := fun j hj => (pM27.2 (275 + j) (by omega)).trans (knM23 j hj)
          have c98M27 : M27 98 = M 98 := (fM270 98 (by decide)).trans c98M23
          have c99M27 : M27 99 = M 99 := (fM270 99 (by decide)).trans c99M23
          have c116M27 : M27 116 = M 116 := (fM270 116 (by decide)).trans c116M23
          have spM27 := pM27.1
          have rrM27 := spM27.r
          rw [c99M23] at spM27
          obtain ⟨e25M27, rcM27⟩ := NT.rf (i := k.toNat) e25M23 iM23.2.1 spM27 (show z14 = _ by rw [dr1, show v4 = M 99 0 by omega]) (show z18 = _ by rw [dr2, show v4 = M 99 0 by omega]) (show v24 = _ from wq) (by omega) (by omega) (by omega)
          rw [show k.toNat + 1 = (k + 1).toNat by omega] at e25M27 rcM27
          refine g_if_ne (pc' := 131) (tgt := 135) ⟨by omega, by omega⟩ dX10_night_128 rfl rfl (fun c28 => ?_) (fun c28 => ?_)
          · refine g_iconst (pc' := 136) dX10_night_135 rfl ?_
            refine g_iadd (pc' := 137) dX10_night_136 rfl ?_
            obtain ⟨x29, ex29⟩ : ∃ z : Int, z = md + 0 := ⟨_, rfl⟩
            rw [← ex29]
            refine g_istore_n (pc' := 138) (i := 3) (L' := [(3, vi x29), (6, vi z18), (5, vi z14), (4, vi k), (0, vr X 97), (2, vi b)]) dX10_night_137 rfl rfl (by decide) rfl ?_
            refine g_iinc (pc' := 141) (L' := [(4, vi (k + 1)), (3, vi x29), (6, vi z18), (5, vi z14), (0, vr X 97), (2, vi b)]) 3 dX10_night_138 rfl rfl (by decide) rfl ?_
            refine g_goto (tgt := 53) dX10_night_141 rfl ?_
            refine g_sub [1, 0, 4, 5] rfl ?_
            exact ih _ (by omega) x29 (k + 1) M27 iM27 fM27 q99_0_M27 q99_1_M27 q99_2_M27 q99_3_M27 q100_0_M27 q100_1_M27 q100_2_M27 q100_3_M27 q100_49_M27 q100_50_M27 q100_51_M27 q100_52_M27 q103_0_M27 q103_1_M27 q97_12_M27 q97_17_M27 q97_33_M27 q97_10_M27 q97_1_M27 knM27 c98M27 c99M27 c116M27 (by omega) (by omega) (by omega) (by omega) (by omega) (by rw [show 3 * (k + 1).toNat = 3 * k.toNat + 3 by omega, ← sd3]; omega) (by omega) e25M27 rfl
          · refine g_iconst (pc' := 132) dX10_night_131 rfl ?_
            refine g_goto (tgt := 136) dX10_night_132 rfl ?_
            refine g_iadd (pc' := 137) dX10_night_136 rfl ?_
            obtain ⟨x30, ex30⟩ : ∃ z : Int, z = md + 1 := ⟨_, rfl⟩
            rw [← ex30]
            refine g_istore_n (pc' := 138) (i := 3) (L' := [(3, vi x30), (6, vi z18), (5, vi z14), (4, vi k), (0, vr X 97), (2, vi b)]) dX10_night_137 rfl rfl (by decide) rfl ?_
            refine g_iinc (pc' := 141) (L' := [(4, vi (k + 1)), (3, vi x30), (6, vi z18), (5, vi z14), (0, vr X 97), (2, vi b)]) 3 dX10_night_138 rfl rfl (by decide) rfl ?_
            refine g_goto (tgt := 53) dX10_night_141 rfl ?_
            refine g_sub [1, 0, 4, 5] rfl ?_
            exact ih _ (by omega) x30 (k + 1) M27 iM27 fM27 q99_0_M27 q99_1_M27 q99_2_M27 q99_3_M27 q100_0_M27 q100_1_M27 q100_2_M27 q100_3_M27 q100_49_M27 q100_50_M27 q100_51_M27 q100_52_M27 q103_0_M27 q103_1_M27 q97_12_M27 q97_17_M27 q97_33_M27 q97_10_M27 q97_1_M27 knM27 c98M27 c99M27 c116M27 (by omega) (by omega) (by omega) (by omega) (by omega) (by rw [show 3 * (k + 1).toNat = 3 * k.toNat + 3 by omega, ← sd3]; omega) (by omega) e25M27 rfl
set_option maxHeartbeats 4000000 in
set_option maxRecDepth 100000 in
theorem c_X10_night_x (X : Cx) (M : Mm) (hi : IM M) (a : Int) (ha : inI a) (b : Int) (hb : inI b) : Con X 12 yX10_night cX10_night 7 (some .int) [vr X 97, vi a, vi b] M (Qi (fun r M1 => IM M1 ∧ Fr (fun c => c = 97 ∨ c = 98 ∨ c = 101 ∨ c = 104 ∨ c = 105 ∨ c = 116) M M1 ∧ M1 99 0 = M 99 0 ∧ M1 99 1 = M 99 1 ∧ M1 99 2 = M 99 2 ∧ M1 99 3 = M 99 3 ∧ M1 100 0 = M 100 0 ∧ M1 100 1 = M 100 1 ∧ M1 100 2 = M 100 2 ∧ M1 100 3 = M 100 3 ∧ M1 100 49 = M 100 49 ∧ M1 100 50 = M 100 50 ∧ M1 100 51 = M 100 51 ∧ M1 100 52 = M 100 52 ∧ M1 103 0 = M 103 0 ∧ M1 103 1 = M 103 1 ∧ M1 97 12 = M 97 12 ∧ M1 97 17 = M 97 17 ∧ M1 97 33 = M 97 33 ∧ M1 97 10 = M 97 10 ∧ ((-6 ≤ r ∧ r ≤ 60) ∧ (¬ ((0 ≤ a ∧ a ≤ 1000000) ∧ (1 ≤ b ∧ b ≤ 20)) → r = -1 ∧ M1 116 = M 116 ∧ M1 97 44 = M 97 44) ∧ (((0 ≤ a ∧ a ≤ 1000000) ∧ (1 ≤ b ∧ b ≤ 20)) → r = ntC (fun j => M 99 (4 + j)) (fun j => M 99 (10 + j)) (M 101) (M 99 0) (M 99 1) a (ntK (M 99 0) (M 99 1) b) ∧ M1 97 44 = M 99 0 ∧ ∀ j : Nat, (j : Int) < 4 * M 99 0 → M1 116 j = tsM (ntM (fun j => M 99 (4 + j)) (fun j => M 99 (10 + j)) (M 101) (M 99 0) (M 99 1) a (ntK (M 99 0) (M 99 1) b)) ((j : Int) / 4) ((j : Int) % 4)) ∧ E25 (M 101) (M1 101) ∧ M1 97 1 = ngv r ∧ M1 98 = telF (M 98) r))) := by
  refine Con.ofG rfl (Nat.le_of_ble_eq_true rfl) ?_
  show G X 12 RX10 cX10_night 7 (some .int) (Qi (fun r M1 => IM M1 ∧ Fr (fun c => c = 97 ∨ c = 98 ∨ c = 101 ∨ c = 104 ∨ c = 105 ∨ c = 116) M M1 ∧ M1 99 0 = M 99 0 ∧ M1 99 1 = M 99 1 ∧ M1 99 2 = M 99 2 ∧ M1 99 3 = M 99 3 ∧ M1 100 0 = M 100 0 ∧ M1 100 1 = M 100 1 ∧ M1 100 2 = M 100 2 ∧ M1 100 3 = M 100 3 ∧ M1 100 49 = M 100 49 ∧ M1 100 50 = M 100 50 ∧ M1 100 51 = M 100 51 ∧ M1 100 52 = M 100 52 ∧ M1 103 0 = M 103 0 ∧ M1 103 1 = M 103 1 ∧ M1 97 12 = M 97 12 ∧ M1 97 17 = M 97 17 ∧ M1 97 33 = M 97 33 ∧ M1 97 10 = M 97 10 ∧ ((-6 ≤ r ∧ r ≤ 60) ∧ (¬ ((0 ≤ a ∧ a ≤ 1000000) ∧ (1 ≤ b ∧ b ≤ 20)) → r = -1 ∧ M1 116 = M 116 ∧ M1 97 44 = M 97 44) ∧ (((0 ≤ a ∧ a ≤ 1000000) ∧ (1 ≤ b ∧ b ≤ 20)) → r = ntC (fun j => M 99 (4 + j)) (fun j => M 99 (10 + j)) (M 101) (M 99 0) (M 99 1) a (ntK (M 99 0) (M 99 1) b) ∧ M1 97 44 = M 99 0 ∧ ∀ j : Nat, (j : Int) < 4 * M 99 0 → M1 116 j = tsM (ntM (fun j => M 99 (4 + j)) (fun j => M 99 (10 + j)) (M 101) (M 99 0) (M 99 1) a (ntK (M 99 0) (M 99 1) b)) ((j : Int) / 4) ((j : Int) % 4)) ∧ E25 (M 101) (M1 101) ∧ M1 97 1 = ngv r ∧ M1 98 = telF (M 98) r))) 0 [(0, vr X 97), (1, vi a), (2, vi b)] [] M
  have p0 := hi.1.1
  have p1 := hi.1.2.1
  have p2 := hi.1.2.2.1
  have p3 := hi.1.2.2.2.1
  have p12 := hi.2.2.2.1
  refine g_aload_n (pc' := 1) 0 dX10_night_0 rfl rfl ?_
  refine g_iconst (pc' := 2) dX10_night_1 rfl ?_
  refine g_putI (pc' := 5) dX10_night_2 rfl p_X10_77 rfl rfl (by decide) (fun M1 hM1 => ?_)
  have iM1 : IM M1 := IM.wr hi hM1 (by unfold okv; first | decide | omega)
  have fM1 : Fr (fun c => c = 97 ∨ c = 98 ∨ c = 101 ∨ c = 104 ∨ c = 105 ∨ c = 116) M M1 := Fr.wr Fr.rf hM1 (by first | decide | omega | (dsimp only; omega))
  have q99_0_M1 : (M1 99 0 = M 99 0) := (show M1 99 0 = M 99 0 by rw [hM1]; exact mu_ne _ _ (by first | decide | omega))
  have q99_1_M1 : (M1 99 1 = M 99 1) := (show M1 99 1 = M 99 1 by rw [hM1]; exact mu_ne _ _ (by first | decide | omega))
  have q99_2_M1 : (M1 99 2 = M 99 2) := (show M1 99 2 = M 99 2 by rw [hM1]; exact mu_ne _ _ (by first | decide | omega))
  have q99_3_M1 : (M1 99 3 = M 99 3) := (show M1 99 3 = M 99 3 by rw [hM1]; exact mu_ne _ _ (by first | decide | omega))
  have q100_0_M1 : id (M1 100 0 = M 100 0) := (show M1 100 0 = M 100 0 by rw [hM1]; exact mu_ne _ _ (by first | decide | omega))
  have q100_1_M1 : id (M1 100 1 = M 100 1) := (show M1 100 1 = M 100 1 by rw [hM1]; exact mu_ne _ _ (by first | decide | omega))
  have q100_2_M1 : id (M1 100 2 = M 100 2) := (show M1 100 2 = M 100 2 by rw [hM1]; exact mu_ne _ _ (by first | decide | omega))
  have q100_3_M1 : id (M1 100 3 = M 100 3) := (show M1 100 3 = M 100 3 by rw [hM1]; exact mu_ne _ _ (by first | decide | omega))
  have q100_49_M1 : id (M1 100 49 = M 100 49) := (show M1 100 49 = M 100 49 by rw [hM1]; exact mu_ne _ _ (by first | decide | omega))
  have q100_50_M1 : id (M1 100 50 = M 100 50) := (show M1 100 50 = M 100 50 by rw [hM1]; exact mu_ne _ _ (by first | decide | omega))
  have q100_51_M1 : id (M1 100 51 = M 100 51) := (show M1 100 51 = M 100 51 by rw [hM1]; exact mu_ne _ _ (by first | decide | omega))
  have q100_52_M1 : id (M1 100 52 = M 100 52) := (show M1 100 52 = M 100 52 by rw [hM1]; exact mu_ne _ _ (by first | decide | omega))
  have q103_0_M1 : id (M1 103 0 = M 103 0) := (show M1 103 0 = M 103 0 by rw [hM1]; exact mu_ne _ _ (by first | decide | omega))
  have q103_1_M1 : id (M1 103 1 = M 103 1) := (show M1 103 1 = M 103 1 by rw [hM1]; exact mu_ne _ _ (by first | decide | omega))
  have q97_12_M1 : (M1 97 12 = M 97 12) := (show M1 97 12 = M 97 12 by rw [hM1]; exact mu_ne _ _ (by first | decide | omega))
  have q97_17_M1 : (M1 97 17 = M 97 17) := (show M1 97 17 = M 97 17 by rw [hM1]; exact mu_ne _ _ (by first | decide | omega))
  have q97_33_M1 : (M1 97 33 = M 97 33) := (show M1 97 33 = M 97 33 by rw [hM1]; exact mu_ne _ _ (by first | decide | omega))
  have q97_10_M1 : (M1 97 10 = M 97 10) := (show M1 97 10 = M 97 10 by rw [hM1]; exact mu_ne _ _ (by first | decide | omega))
  have q97_44_M1 : (M1 97 44 = M 97 44) := (show M1 97 44 = M 97 44 by rw [hM1]; exact mu_ne _ _ (by first | decide | omega))
  have q97_1_M1 : (M1 97 1 = M 97 1) := (show M1 97 1 = M 97 1 by rw [hM1]; exact mu_ne _ _ (by first | decide | omega))
  have wM1_97_42 : M1 97 42 = M 97 42 := by rw [hM1]; exact mu_ne _ _ (by first | decide | omega)
  have wM1_97_44 : M1 97 44 = M 97 44 := by rw [hM1]; exact mu_ne _ _ (by first | decide | omega)
  have xM1_97_0 : M1 97 0 = 0 := by rw [hM1]; exact mu_at _ _ _ _
  have c98M1 : M1 98 = M 98 := (show M1 98 = M 98 by rw [hM1]; exact mu_cell _ _ (by decide))
  have c99M1 : M1 99 = M 99 := (show M1 99 = M 99 by rw [hM1]; exact mu_cell _ _ (by decide))
  have c116M1 : M1 116 = M 116 := (show M1 116 = M 116 by rw [hM1]; exact mu_cell _ _ (by decide))
  have c101M1 : M1 101 = M 101 := (show M1 101 = M 101 by rw [hM1]; exact mu_cell _ _ (by decide))
  refine g_iload_n (pc' := 6) 1 dX10_night_5 rfl rfl ?_
  refine g_i2l (pc' := 7) ha dX10_night_6 rfl ?_
  refine g_lconst (pc' := 8) (v := 0) dX10_night_7 rfl (by decide) ?_
  refine g_ldc2 (pc' := 11) (v := 1000000) dX10_night_8 rfl k_X10_181 ?_
  refine g_callSip (pc' := 14) (As := [vl a, vl 0, vl 1000000]) (S := []) dX10_night_11 rfl m_X10_83 w_X10_in (c_X10_in X M1 a ⟨by omega, by omega⟩ 0 (by decide) 1000000 (by decide)) rfl (by decide) (by decide) rfl (Nat.le_of_ble_eq_true rfl) (fun z3 q2 => ?_)
  refine g_if_eq (pc' := 17) (tgt := 29) ⟨by omega, by omega⟩ dX10_night_14 rfl rfl (fun c4 => ?_) (fun c4 => ?_)
  · replace q2 := q2.resolve_left (fun h => absurd (c4.symm.trans h.1) (by decide))
    refine g_aload_n (pc' := 30) 0 dX10_night_29 rfl rfl ?_
    refine g_iconst (pc' := 31) dX10_night_30 rfl ?_
    refine g_callVi (pc' := 34) (As := [vi (-1)]) (b := 97) (S := []) dX10_night_31 rfl m_X10_87 w_X10_tell (c_X10_tell_x X M1 iM1 (-1) (by decide) (by omega)) rfl ⟨_, _, _, rfl, rfl, rfl⟩ (by decide) (by decide) rfl (Nat.le_of_ble_eq_true rfl) (fun z6 M7 q5 => ?_)
    obtain ⟨iM7, fM70, eM7_99_0, eM7_99_1, eM7_99_2, eM7_99_3, eM7_100_0, eM7_100_1, eM7_100_2, eM7_100_3, eM7_100_49, eM7_100_50, eM7_100_51, eM7_100_52, eM7_103_0, eM7_103_1, eM7_97_12, eM7_97_17, eM7_97_33, eM7_97_10, eM7_97_44, pM7⟩ := q5
    have fM7 : Fr (fun c => c = 97 ∨ c = 98 ∨ c = 101 ∨ c = 104 ∨ c = 105 ∨ c = 116) M M7 := Fr.tr fM1 fM70 fi_35
    have q99_0_M7 : (M7 99 0 = M 99 0) := eM7_99_0.trans q99_0_M1
    have q99_1_M7 : (M7 99 1 = M 99 1) := eM7_99_1.trans q99_1_M1
    have q99_2_M7 : (M7 99 2 = M 99 2) := eM7_99_2.trans q99_2_M1
    have q99_3_M7 : (M7 99 3 = M 99 3) := eM7_99_3.trans q99_3_M1
    have q100_0_M7 : id (M7 100 0 = M 100 0) := eM7_100_0.trans q100_0_M1
    have q100_1_M7 : id (M7 100 1 = M 100 1) := eM7_100_1.trans q100_1_M1
    have q100_2_M7 : id (M7 100 2 = M 100 2) := eM7_100_2.trans q100_2_M1
    have q100_3_M7 : id (M7 100 3 = M 100 3) := eM7_100_3.trans q100_3_M1
    have q100_49_M7 : id (M7 100 49 = M 100 49) := eM7_100_49.trans q100_49_M1
    have q100_50_M7 : id (M7 100 50 = M 100 50) := eM7_100_50.trans q100_50_M1
    have q100_51_M7 : id (M7 100 51 = M 100 51) := eM7_100_51.trans q100_51_M1
    have q100_52_M7 : id (M7 100 52 = M 100 52) := eM7_100_52.trans q100_52_M1
    have q103_0_M7 : id (M7 103 0 = M 103 0) := eM7_103_0.trans q103_0_M1
    have q103_1_M7 : id (M7 103 1 = M 103 1) := eM7_103_1.trans q103_1_M1
    have q97_12_M7 : (M7 97 12 = M 97 12) := eM7_97_12.trans q97_12_M1
    have q97_17_M7 : (M7 97 17 = M 97 17) := eM7_97_17.trans q97_17_M1
    have q97_33_M7 : (M7 97 33 = M 97 33) := eM7_97_33.trans q97_33_M1
    have q97_10_M7 : (M7 97 10 = M 97 10) := eM7_97_10.trans q97_10_M1
    have q97_44_M7 : (M7 97 44 = M 97 44) := eM7_97_44.trans q97_44_M1
    have wM7_97_44 : M7 97 44 = M1 97 44 := eM7_97_44
    clear eM7_100_0 eM7_100_1 eM7_100_2 eM7_100_3 eM7_100_49 eM7_100_50 eM7_100_51 eM7_100_52 eM7_103_0 eM7_103_1
    have c99M7 : M7 99 = M 99 := (fM70 99 (by decide)).trans c99M1
    have c116M7 : M7 116 = M 116 := (fM70 116 (by decide)).trans c116M1
    have c101M7 : M7 101 = M 101 := (fM70 101 (by decide)).trans c101M1
    obtain ⟨anM7, asM7, a98M7⟩ := pM7
    rw [c98M1] at a98M7
    subst anM7
    have t101 := fM70 101 (by decide)
    have t116 := fM70 116 (by decide)
    refine g_ireturn dX10_night_34 ?_
    exact ⟨iM7, fM7, q99_0_M7, q99_1_M7, q99_2_M7, q99_3_M7, q100_0_M7, q100_1_M7, q100_2_M7, q100_3_M7, q100_49_M7, q100_50_M7, q100_51_M7, q100_52_M7, q103_0_M7, q103_1_M7, q97_12_M7, q97_17_M7, q97_33_M7, q97_10_M7, by omega, fun _ => ⟨by omega, t116.trans c116M1, by omega⟩, fun q => absurd q (by omega), (by rw [t101, c101M1]; exact E25.rf _), asM7, a98M7⟩
  · replace q2 := q2.resolve_right (fun h => c4 h.1)
    refine g_iload_n (pc' := 18) 2 dX10_night_17 rfl rfl ?_
    refine g_i2l (pc' := 19) hb dX10_night_18 rfl ?_
    refine g_lconst (pc' := 20) (v := 1) dX10_night_19 rfl (by decide) ?_
    refine g_ldc2 (pc' := 23) (v := 20) dX10_night_20 rfl k_X10_204 ?_
    refine g_callSip (pc' := 26) (As := [vl b, vl 1, vl 20]) (S := []) dX10_night_23 rfl m_X10_83 w_X10_in (c_X10_in X M1 b ⟨by omega, by omega⟩ 1 (by decide) 20 (by decide)) rfl (by decide) (by decide) rfl (Nat.le_of_ble_eq_true rfl) (fun z9 q8 => ?_)
    refine g_if_ne (pc' := 29) (tgt := 35) ⟨by omega, by omega⟩ dX10_night_26 rfl rfl (fun c10 => ?_) (fun c10 => ?_)
    · replace q8 := q8.resolve_right (fun h => c10 h.1)
      refine g_aload_n (pc' := 36) 0 dX10_night_35 rfl rfl ?_
      refine g_sipush (pc' := 39) (v := 275) dX10_night_36 rfl (by decide) ?_
      refine g_callVv (pc' := 42) (As := [vi 275]) (b := 97) (S := []) dX10_night_39 rfl m_X10_123 w_X10_keep (c_X10_keep X M1 275 (by decide) ⟨by omega, by omega⟩) rfl ⟨_, _, _, rfl, rfl, rfl⟩ (by decide) (by decide) rfl (Nat.le_of_ble_eq_true rfl) (fun M12 q11 => ?_)
      obtain ⟨fkM12, kpM12, usM12⟩ := q11
      have iM12 : IM M12 := IM.fr iM1 fkM12 (fun c z => by omega)
      have fM12 : Fr (fun c => c = 97 ∨ c = 98 ∨ c = 101 ∨ c = 104 ∨ c = 105 ∨ c = 116) M M12 := Fr.tr fM1 fkM12 (fun c z => by omega)
      have q99_0_M12 : M12 99 0 = M 99 0 := (congrFun (fkM12 99 (by omega)) 0).trans q99_0_M1
      have q99_1_M12 : M12 99 1 = M 99 1 := (congrFun (fkM12 99 (by omega)) 1).trans q99_1_M1
      have q99_2_M12 : M12 99 2 = M 99 2 := (congrFun (fkM12 99 (by omega)) 2).trans q99_2_M1
      have q99_3_M12 : M12 99 3 = M 99 3 := (congrFun (fkM12 99 (by omega)) 3).trans q99_3_M1
      have q100_0_M12 : M12 100 0 = M 100 0 := (congrFun (fkM12 100 (by omega)) 0).trans q100_0_M1
      have q100_1_M12 : M12 100 1 = M 100 1 := (congrFun (fkM12 100 (by omega)) 1).trans q100_1_M1
      have q100_2_M12 : M12 100 2 = M 100 2 := (congrFun (fkM12 100 (by omega)) 2).trans q100_2_M1
      have q100_3_M12 : M12 100 3 = M 100 3 := (congrFun (fkM12 100 (by omega)) 3).trans q100_3_M1
      have q100_49_M12 : M12 100 49 = M 100 49 := (congrFun (fkM12 100 (by omega)) 49).trans q100_49_M1
      have q100_50_M12 : M12 100 50 = M 100 50 := (congrFun (fkM12 100 (by omega)) 50).trans q100_50_M1
      have q100_51_M12 : M12 100 51 = M 100 51 := (congrFun (fkM12 100 (by omega)) 51).trans q100_51_M1
      have q100_52_M12 : M12 100 52 = M 100 52 := (congrFun (fkM12 100 (by omega)) 52).trans q100_52_M1
      have q103_0_M12 : M12 103 0 = M 103 0 := (congrFun (fkM12 103 (by omega)) 0).trans q103_0_M1
      have q103_1_M12 : M12 103 1 = M 103 1 := (congrFun (fkM12 103 (by omega)) 1).trans q103_1_M1
      have q97_12_M12 : M12 97 12 = M 97 12 := (congrFun (fkM12 97 (by omega)) 12).trans q97_12_M1
      have q97_17_M12 : M12 97 17 = M 97 17 := (congrFun (fkM12 97 (by omega)) 17).trans q97_17_M1
      have q97_33_M12 : M12 97 33 = M 97 33 := (congrFun (fkM12 97 (by omega)) 33).trans q97_33_M1
      have q97_10_M12 : M12 97 10 = M 97 10 := (congrFun (fkM12 97 (by omega)) 10).trans q97_10_M1
      have q97_44_M12 : M12 97 44 = M 97 44 := (congrFun (fkM12 97 (by omega)) 44).trans q97_44_M1
      have q97_1_M12 : M12 97 1 = M 97 1 := (congrFun (fkM12 97 (by omega)) 1).trans q97_1_M1
      have knM12 : ∀ j : Nat, j < 25 → M12 104 (275 + j) = M 101 j := fun j hj => (kpM12 j hj).trans (by rw [hM1, mu_cell _ _ (by decide)])
      have c98M12 : M12 98 = M 98 := (fkM12 98 (by decide)).trans c98M1
      have c99M12 : M12 99 = M 99 := (fkM12 99 (by decide)).trans c99M1
      have c116M12 : M12 116 = M 116 := (fkM12 116 (by decide)).trans c116M1
      have c101M12 : M12 101 = M 101 := (fkM12 101 (by decide)).trans c101M1
      refine g_aload_n (pc' := 43) 0 dX10_night_42 rfl rfl ?_
      refine g_iload_n (pc' := 44) 1 dX10_night_43 rfl rfl ?_
      refine g_i2l (pc' := 45) ha dX10_night_44 rfl ?_
      refine g_putL (pc' := 48) dX10_night_45 rfl p_X10_399 rfl rfl ⟨by omega, by omega⟩ (fun M13 hM13 => ?_)
      have iM13 : IM M13 := IM.wr iM12 hM13 (by unfold okv; first | decide | omega)
      have fM13 : Fr (fun c => c = 97 ∨ c = 98 ∨ c = 101 ∨ c = 104 ∨ c = 105 ∨ c = 116) M M13 := Fr.wr fM12 hM13 (by first | decide | omega | (dsimp only; omega))
      have q99_0_M13 : (M13 99 0 = M 99 0) := (show M13 99 0 = M12 99 0 by rw [hM13]; exact mu_ne _ _ (by first | decide | omega)).trans q99_0_M12
      have q99_1_M13 : (M13 99 1 = M 99 1) := (show M13 99 1 = M12 99 1 by rw [hM13]; exact mu_ne _ _ (by first | decide | omega)).trans q99_1_M12
      have q99_2_M13 : (M13 99 2 = M 99 2) := (show M13 99 2 = M12 99 2 by rw [hM13]; exact mu_ne _ _ (by first | decide | omega)).trans q99_2_M12
      have q99_3_M13 : (M13 99 3 = M 99 3) := (show M13 99 3 = M12 99 3 by rw [hM13]; exact mu_ne _ _ (by first | decide | omega)).trans q99_3_M12
      have q100_0_M13 : id (M13 100 0 = M 100 0) := (show M13 100 0 = M12 100 0 by rw [hM13]; exact mu_ne _ _ (by first | decide | omega)).trans q100_0_M12
      have q100_1_M13 : id (M13 100 1 = M 100 1) := (show M13 100 1 = M12 100 1 by rw [hM13]; exact mu_ne _ _ (by first | decide | omega)).trans q100_1_M12
      have q100_2_M13 : id (M13 100 2 = M 100 2) := (show M13 100 2 = M12 100 2 by rw [hM13]; exact mu_ne _ _ (by first | decide | omega)).trans q100_2_M12
      have q100_3_M13 : id (M13 100 3 = M 100 3) := (show M13 100 3 = M12 100 3 by rw [hM13]; exact mu_ne _ _ (by first | decide | omega)).trans q100_3_M12
      have q100_49_M13 : id (M13 100 49 = M 100 49) := (show M13 100 49 = M12 100 49 by rw [hM13]; exact mu_ne _ _ (by first | decide | omega)).trans q100_49_M12
      have q100_50_M13 : id (M13 100 50 = M 100 50) := (show M13 100 50 = M12 100 50 by rw [hM13]; exact mu_ne _ _ (by first | decide | omega)).trans q100_50_M12
      have q100_51_M13 : id (M13 100 51 = M 100 51) := (show M13 100 51 = M12 100 51 by rw [hM13]; exact mu_ne _ _ (by first | decide | omega)).trans q100_51_M12
      have q100_52_M13 : id (M13 100 52 = M 100 52) := (show M13 100 52 = M12 100 52 by rw [hM13]; exact mu_ne _ _ (by first | decide | omega)).trans q100_52_M12
      have q103_0_M13 : id (M13 103 0 = M 103 0) := (show M13 103 0 = M12 103 0 by rw [hM13]; exact mu_ne _ _ (by first | decide | omega)).trans q103_0_M12
      have q103_1_M13 : id (M13 103 1 = M 103 1) := (show M13 103 1 = M12 103 1 by rw [hM13]; exact mu_ne _ _ (by first | decide | omega)).trans q103_1_M12
      have q97_12_M13 : (M13 97 12 = M 97 12) := (show M13 97 12 = M12 97 12 by rw [hM13]; exact mu_ne _ _ (by first | decide | omega)).trans q97_12_M12
      have q97_17_M13 : (M13 97 17 = M 97 17) := (show M13 97 17 = M12 97 17 by rw [hM13]; exact mu_ne _ _ (by first | decide | omega)).trans q97_17_M12
      have q97_33_M13 : (M13 97 33 = M 97 33) := (show M13 97 33 = M12 97 33 by rw [hM13]; exact mu_ne _ _ (by first | decide | omega)).trans q97_33_M12
      have q97_10_M13 : (M13 97 10 = M 97 10) := (show M13 97 10 = M12 97 10 by rw [hM13]; exact mu_ne _ _ (by first | decide | omega)).trans q97_10_M12
      have q97_44_M13 : (M13 97 44 = M 97 44) := (show M13 97 44 = M12 97 44 by rw [hM13]; exact mu_ne _ _ (by first | decide | omega)).trans q97_44_M12
      have q97_1_M13 : (M13 97 1 = M 97 1) := (show M13 97 1 = M12 97 1 by rw [hM13]; exact mu_ne _ _ (by first | decide | omega)).trans q97_1_M12
      have wM13_97_44 : M13 97 44 = M12 97 44 := by rw [hM13]; exact mu_ne _ _ (by first | decide | omega)
      have xM13_97_42 : M13 97 42 = a := by rw [hM13]; exact mu_at _ _ _ _
      have knM13 : ∀ j : Nat, j < 25 → M13 104 (275 + j) = M 101 j := fun j hj => by rw [hM13, mu_cell _ _ (by decide)]; exact knM12 j hj
      have c98M13 : M13 98 = M 98 := ((show M13 98 = M12 98 by rw [hM13]; exact mu_cell _ _ (by decide))).trans c98M12
      have c99M13 : M13 99 = M 99 := ((show M13 99 = M12 99 by rw [hM13]; exact mu_cell _ _ (by decide))).trans c99M12
      have c116M13 : M13 116 = M 116 := ((show M13 116 = M12 116 by rw [hM13]; exact mu_cell _ _ (by decide))).trans c116M12
      have c101M13 : M13 101 = M 101 := ((show M13 101 = M12 101 by rw [hM13]; exact mu_cell _ _ (by decide))).trans c101M12
      refine g_iconst (pc' := 49) dX10_night_48 rfl ?_
      refine g_istore_n (pc' := 50) (i := 3) (L' := [(3, vi 0), (0, vr X 97), (1, vi a), (2, vi b)]) dX10_night_49 rfl rfl (by decide) rfl ?_
      refine g_iconst (pc' := 51) dX10_night_50 rfl ?_
      refine g_istore (pc' := 53) (L' := [(4, vi 0), (3, vi 0), (0, vr X 97), (1, vi a), (2, vi b)]) dX10_night_51 rfl (by decide) rfl ?_
      refine g_sub [1, 0, 2, 4] rfl ?_
      exact l_X10_night_x_53 X M hi a ha b hb _ 0 0 M13 iM13 fM13 q99_0_M13 q99_1_M13 q99_2_M13 q99_3_M13 q100_0_M13 q100_1_M13 q100_2_M13 q100_3_M13 q100_49_M13 q100_50_M13 q100_51_M13 q100_52_M13 q103_0_M13 q103_1_M13 q97_12_M13 q97_17_M13 q97_33_M13 q97_10_M13 q97_1_M13 knM13 c98M13 c99M13 c116M13 rfl (by omega) (by omega) (by omega) (by omega) (by show _ = a; omega) (by omega) (by rw [c101M13]; exact E25.rf _) rfl
    · replace q8 := q8.resolve_left (fun h => absurd (c10.symm.trans h.1) (by decide))
      refine g_aload_n (pc' := 30) 0 dX10_night_29 rfl rfl ?_
      refine g_iconst (pc' := 31) dX10_night_30 rfl ?_
      refine g_callVi (pc' := 34) (As := [vi (-1)]) (b := 97) (S := []) dX10_night_31 rfl m_X10_87 w_X10_tell (c_X10_tell_x X M1 iM1 (-1) (by decide) (by omega)) rfl ⟨_, _, _, rfl, rfl, rfl⟩ (by decide) (by decide) rfl (Nat.le_of_ble_eq_true rfl) (fun z15 M16 q14 => ?_)
      obtain ⟨iM16, fM160, eM16_99_0, eM16_99_1, eM16_99_2, eM16_99_3, eM16_100_0, eM16_100_1, eM16_100_2, eM16_100_3, eM16_100_49, eM16_100_50, eM16_100_51, eM16_100_52, eM16_103_0, eM16_103_1, eM16_97_12, eM16_97_17, eM16_97_33, eM16_97_10, eM16_97_44, pM16⟩ := q14
      have fM16 : Fr (fun c => c = 97 ∨ c = 98 ∨ c = 101 ∨ c = 104 ∨ c = 105 ∨ c = 116) M M16 := Fr.tr fM1 fM160 fi_35
      have q99_0_M16 : (M16 99 0 = M 99 0) := eM16_99_0.trans q99_0_M1
      have q99_1_M16 : (M16 99 1 = M 99 1) := eM16_99_1.trans q99_1_M1
      have q99_2_M16 : (M16 99 2 = M 99 2) := eM16_99_2.trans q99_2_M1
      have q99_3_M16 : (M16 99 3 = M 99 3) := eM16_99_3.trans q99_3_M1
      have q100_0_M16 : id (M16 100 0 = M 100 0) := eM16_100_0.trans q100_0_M1
      have q100_1_M16 : id (M16 100 1 = M 100 1) := eM16_100_1.trans q100_1_M1
      have q100_2_M16 : id (M16 100 2 = M 100 2) := eM16_100_2.trans q100_2_M1
      have q100_3_M16 : id (M16 100 3 = M 100 3) := eM16_100_3.trans q100_3_M1
      have q100_49_M16 : id (M16 100 49 = M 100 49) := eM16_100_49.trans q100_49_M1
      have q100_50_M16 : id (M16 100 50 = M 100 50) := eM16_100_50.trans q100_50_M1
      have q100_51_M16 : id (M16 100 51 = M 100 51) := eM16_100_51.trans q100_51_M1
      have q100_52_M16 : id (M16 100 52 = M 100 52) := eM16_100_52.trans q100_52_M1
      have q103_0_M16 : id (M16 103 0 = M 103 0) := eM16_103_0.trans q103_0_M1
      have q103_1_M16 : id (M16 103 1 = M 103 1) := eM16_103_1.trans q103_1_M1
      have q97_12_M16 : (M16 97 12 = M 97 12) := eM16_97_12.trans q97_12_M1
      have q97_17_M16 : (M16 97 17 = M 97 17) := eM16_97_17.trans q97_17_M1
      have q97_33_M16 : (M16 97 33 = M 97 33) := eM16_97_33.trans q97_33_M1
      have q97_10_M16 : (M16 97 10 = M 97 10) := eM16_97_10.trans q97_10_M1
      have q97_44_M16 : (M16 97 44 = M 97 44) := eM16_97_44.trans q97_44_M1
      have wM16_97_44 : M16 97 44 = M1 97 44 := eM16_97_44
      clear eM16_100_0 eM16_100_1 eM16_100_2 eM16_100_3 eM16_100_49 eM16_100_50 eM16_100_51 eM16_100_52 eM16_103_0 eM16_103_1
      have c99M16 : M16 99 = M 99 := (fM160 99 (by decide)).trans c99M1
      have c116M16 : M16 116 = M 116 := (fM160 116 (by decide)).trans c116M1
      have c101M16 : M16 101 = M 101 := (fM160 101 (by decide)).trans c101M1
      obtain ⟨anM16, asM16, a98M16⟩ := pM16
      rw [c98M1] at a98M16
      subst anM16
      have t101 := fM160 101 (by decide)
      have t116 := fM160 116 (by decide)
      refine g_ireturn dX10_night_34 ?_
      exact ⟨iM16, fM16, q99_0_M16, q99_1_M16, q99_2_M16, q99_3_M16, q100_0_M16, q100_1_M16, q100_2_M16, q100_3_M16, q100_49_M16, q100_50_M16, q100_51_M16, q100_52_M16, q103_0_M16, q103_1_M16, q97_12_M16, q97_17_M16, q97_33_M16, q97_10_M16, by omega, fun _ => ⟨by omega, t116.trans c116M1, by omega⟩, fun q => absurd q (by omega), (by rw [t101, c101M1]; exact E25.rf _), asM16, a98M16⟩
set_option maxHeartbeats 4000000 in
set_option maxRecDepth 100000 in
theorem c_X10_drawn_x (X : Cx) (M : Mm) (hi : IM M) (a : Int) (ha : inI a) (b : Int) (hb : inI b) : Con X 12 yX10_drawn cX10_drawn 3 (some .int) [vr X 97, vi a, vi b] M (Qi (fun r M1 => IM M1 ∧ Fr (fun c => c = 97) M M1 ∧ M1 99 0 = M 99 0 ∧ M1 99 1 = M 99 1 ∧ M1 99 2 = M 99 2 ∧ M1 99 3 = M 99 3 ∧ M1 100 0 = M 100 0 ∧ M1 100 1 = M 100 1 ∧ M1 100 2 = M 100 2 ∧ M1 100 3 = M 100 3 ∧ M1 100 49 = M 100 49 ∧ M1 100 50 = M 100 50 ∧ M1 100 51 = M 100 51 ∧ M1 100 52 = M 100 52 ∧ M1 103 0 = M 103 0 ∧ M1 103 1 = M 103 1 ∧ M1 97 12 = M 97 12 ∧ M1 97 17 = M 97 17 ∧ M1 97 33 = M 97 33 ∧ M1 97 10 = M 97 10 ∧ M1 97 44 = M 97 44 ∧ M1 97 1 = M 97 1 ∧ ((((0 ≤ a ∧ a < M 97 44) ∧ (0 ≤ b ∧ b ≤ 3)) → r = M 116 (4 * a + b).toNat) ∧ (¬ ((0 ≤ a ∧ a < M 97 44) ∧ (0 ≤ b ∧ b ≤ 3)) → r = -1)))) := by
  refine Con.ofG rfl (Nat.le_of_ble_eq_true rfl) ?_
  show G X 12 RX10 cX10_drawn 3 (some .int) (Qi (fun r M1 => IM M1 ∧ Fr (fun c => c = 97) M M1 ∧ M1 99 0 = M 99 0 ∧ M1 99 1 = M 99 1 ∧ M1 99 2 = M 99 2 ∧ M1 99 3 = M 99 3 ∧ M1 100 0 = M 100 0 ∧ M1 100 1 = M 100 1 ∧ M1 100 2 = M 100 2 ∧ M1 100 3 = M 100 3 ∧ M1 100 49 = M 100 49 ∧ M1 100 50 = M 100 50 ∧ M1 100 51 = M 100 51 ∧ M1 100 52 = M 100 52 ∧ M1 103 0 = M 103 0 ∧ M1 103 1 = M 103 1 ∧ M1 97 12 = M 97 12 ∧ M1 97 17 = M 97 17 ∧ M1 97 33 = M 97 33 ∧ M1 97 10 = M 97 10 ∧ M1 97 44 = M 97 44 ∧ M1 97 1 = M 97 1 ∧ ((((0 ≤ a ∧ a < M 97 44) ∧ (0 ≤ b ∧ b ≤ 3)) → r = M 116 (4 * a + b).toNat) ∧ (¬ ((0 ≤ a ∧ a < M 97 44) ∧ (0 ≤ b ∧ b ≤ 3)) → r = -1)))) 0 [(0, vr X 97), (1, vi a), (2, vi b)] [] M
  have p0 := hi.1.1
  have p1 := hi.1.2.1
  have p2 := hi.1.2.2.1
  have p3 := hi.1.2.2.2.1
  have p12 := hi.2.2.2.1
  refine g_aload_n (pc' := 1) 0 dX10_drawn_0 rfl rfl ?_
  refine g_iconst (pc' := 2) dX10_drawn_1 rfl ?_
  refine g_putI (pc' := 5) dX10_drawn_2 rfl p_X10_77 rfl rfl (by decide) (fun M1 hM1 => ?_)
  have iM1 : IM M1 := IM.wr hi hM1 (by unfold okv; first | decide | omega)
  have fM1 : Fr (fun c => c = 97) M M1 := Fr.wr Fr.rf hM1 (by first | decide | omega | (dsimp only; omega))
  have q99_0_M1 : (M1 99 0 = M 99 0) := (show M1 99 0 = M 99 0 by rw [hM1]; exact mu_ne _ _ (by first | decide | omega))
  have q99_1_M1 : (M1 99 1 = M 99 1) := (show M1 99 1 = M 99 1 by rw [hM1]; exact mu_ne _ _ (by first | decide | omega))
  have q99_2_M1 : (M1 99 2 = M 99 2) := (show M1 99 2 = M 99 2 by rw [hM1]; exact mu_ne _ _ (by first | decide | omega))
  have q99_3_M1 : (M1 99 3 = M 99 3) := (show M1 99 3 = M 99 3 by rw [hM1]; exact mu_ne _ _ (by first | decide | omega))
  have q100_0_M1 : id (M1 100 0 = M 100 0) := (show M1 100 0 = M 100 0 by rw [hM1]; exact mu_ne _ _ (by first | decide | omega))
  have q100_1_M1 : id (M1 100 1 = M 100 1) := (show M1 100 1 = M 100 1 by rw [hM1]; exact mu_ne _ _ (by first | decide | omega))
  have q100_2_M1 : id (M1 100 2 = M 100 2) := (show M1 100 2 = M 100 2 by rw [hM1]; exact mu_ne _ _ (by first | decide | omega))
  have q100_3_M1 : id (M1 100 3 = M 100 3) := (show M1 100 3 = M 100 3 by rw [hM1]; exact mu_ne _ _ (by first | decide | omega))
  have q100_49_M1 : id (M1 100 49 = M 100 49) := (show M1 100 49 = M 100 49 by rw [hM1]; exact mu_ne _ _ (by first | decide | omega))
  have q100_50_M1 : id (M1 100 50 = M 100 50) := (show M1 100 50 = M 100 50 by rw [hM1]; exact mu_ne _ _ (by first | decide | omega))
  have q100_51_M1 : id (M1 100 51 = M 100 51) := (show M1 100 51 = M 100 51 by rw [hM1]; exact mu_ne _ _ (by first | decide | omega))
  have q100_52_M1 : id (M1 100 52 = M 100 52) := (show M1 100 52 = M 100 52 by rw [hM1]; exact mu_ne _ _ (by first | decide | omega))
  have q103_0_M1 : id (M1 103 0 = M 103 0) := (show M1 103 0 = M 103 0 by rw [hM1]; exact mu_ne _ _ (by first | decide | omega))
  have q103_1_M1 : id (M1 103 1 = M 103 1) := (show M1 103 1 = M 103 1 by rw [hM1]; exact mu_ne _ _ (by first | decide | omega))
  have q97_12_M1 : (M1 97 12 = M 97 12) := (show M1 97 12 = M 97 12 by rw [hM1]; exact mu_ne _ _ (by first | decide | omega))
  have q97_17_M1 : (M1 97 17 = M 97 17) := (show M1 97 17 = M 97 17 by rw [hM1]; exact mu_ne _ _ (by first | decide | omega))
  have q97_33_M1 : (M1 97 33 = M 97 33) := (show M1 97 33 = M 97 33 by rw [hM1]; exact mu_ne _ _ (by first | decide | omega))
  have q97_10_M1 : (M1 97 10 = M 97 10) := (show M1 97 10 = M 97 10 by rw [hM1]; exact mu_ne _ _ (by first | decide | omega))
  have q97_44_M1 : (M1 97 44 = M 97 44) := (show M1 97 44 = M 97 44 by rw [hM1]; exact mu_ne _ _ (by first | decide | omega))
  have q97_1_M1 : (M1 97 1 = M 97 1) := (show M1 97 1 = M 97 1 by rw [hM1]; exact mu_ne _ _ (by first | decide | omega))
  have wM1_97_44 : M1 97 44 = M 97 44 := by rw [hM1]; exact mu_ne _ _ (by first | decide | omega)
  have xM1_97_0 : M1 97 0 = 0 := by rw [hM1]; exact mu_at _ _ _ _
  refine g_iload_n (pc' := 6) 1 dX10_drawn_5 rfl rfl ?_
  refine g_i2l (pc' := 7) ha dX10_drawn_6 rfl ?_
  refine g_lconst (pc' := 8) (v := 0) dX10_drawn_7 rfl (by decide) ?_
  refine g_aload_n (pc' := 9) 0 dX10_drawn_8 rfl rfl ?_
  refine g_getI (pc' := 12) dX10_drawn_9 rfl f_X10_411 rfl rfl (fun v2 ev2 rv2 => ?_)
  have bv2 : 0 ≤ v2 ∧ v2 ≤ 6 := by rw [ev2]; exact iM1.2.2.2.2
  have av2 : v2 = M 97 44 := ev2.trans q97_44_M1
  refine g_i2l (pc' := 13) rv2 dX10_drawn_12 rfl ?_
  refine g_lconst (pc' := 14) (v := 1) dX10_drawn_13 rfl (by decide) ?_
  refine g_lsub (pc' := 15) dX10_drawn_14 rfl ?_
  refine g_callSip (pc' := 18) (As := [vl a, vl 0, vl (v2 - 1)]) (S := []) dX10_drawn_15 rfl m_X10_83 w_X10_in (c_X10_in X M1 a ⟨by omega, by omega⟩ 0 (by decide) (v2 - 1) ⟨by omega, by omega⟩) rfl (by decide) (by decide) rfl (Nat.le_of_ble_eq_true rfl) (fun z4 q3 => ?_)
  refine g_if_eq (pc' := 21) (tgt := 41) ⟨by omega, by omega⟩ dX10_drawn_18 rfl rfl (fun c5 => ?_) (fun c5 => ?_)
  · replace q3 := q3.resolve_left (fun h => absurd (c5.symm.trans h.1) (by decide))
    refine g_iconst (pc' := 42) dX10_drawn_41 rfl ?_
    refine g_ireturn dX10_drawn_42 ?_
    exact ⟨iM1, fM1, q99_0_M1, q99_1_M1, q99_2_M1, q99_3_M1, q100_0_M1, q100_1_M1, q100_2_M1, q100_3_M1, q100_49_M1, q100_50_M1, q100_51_M1, q100_52_M1, q103_0_M1, q103_1_M1, q97_12_M1, q97_17_M1, q97_33_M1, q97_10_M1, q97_44_M1, q97_1_M1, fun q => by omega, fun q => by omega⟩
  · replace q3 := q3.resolve_right (fun h => c5 h.1)
    refine g_iload_n (pc' := 22) 2 dX10_drawn_21 rfl rfl ?_
    refine g_callSip (pc' := 25) (As := [vi b]) (S := []) dX10_drawn_22 rfl m_X10_105 w_X10_isStuff (c_X10_isStuff X M1 b hb) rfl (by decide) (by decide) rfl (Nat.le_of_ble_eq_true rfl) (fun z7 q6 => ?_)
    refine g_if_eq (pc' := 28) (tgt := 41) ⟨by omega, by omega⟩ dX10_drawn_25 rfl rfl (fun c8 => ?_) (fun c8 => ?_)
    · replace q6 := q6.resolve_left (fun h => absurd (c8.symm.trans h.1) (by decide))
      refine g_iconst (pc' := 42) dX10_drawn_41 rfl ?_
      refine g_ireturn dX10_drawn_42 ?_
      exact ⟨iM1, fM1, q99_0_M1, q99_1_M1, q99_2_M1, q99_3_M1, q100_0_M1, q100_1_M1, q100_2_M1, q100_3_M1, q100_49_M1, q100_50_M1, q100_51_M1, q100_52_M1, q103_0_M1, q103_1_M1, q97_12_M1, q97_17_M1, q97_33_M1, q97_10_M1, q97_44_M1, q97_1_M1, fun q => by omega, fun q => by omega⟩
    · replace q6 := q6.resolve_right (fun h => c8 h.1)
      refine g_aload_n (pc' := 29) 0 dX10_drawn_28 rfl rfl ?_
      refine g_getR (pc' := 32) dX10_drawn_29 rfl f_X10_74 rfl rfl ?_
      refine g_iconst (pc' := 33) dX10_drawn_32 rfl ?_
      refine g_iload_n (pc' := 34) 1 dX10_drawn_33 rfl rfl ?_
      refine g_imul (pc' := 35) dX10_drawn_34 rfl ?_
      refine g_iload_n (pc' := 36) 2 dX10_drawn_35 rfl rfl ?_
      refine g_iadd (pc' := 37) dX10_drawn_36 rfl ?_
      refine g_iald (pc' := 38) dX10_drawn_37 rfl rfl (by omega) (by omega) (fun v9 ev9 rv9 => ?_)
      have kv9 : v9 = M 116 ((4 * a) + b).toNat := by rw [ev9, fM1 116 (by decide)]
      refine g_goto (tgt := 42) dX10_drawn_38 rfl ?_
      refine g_ireturn dX10_drawn_42 ?_
      exact ⟨iM1, fM1, q99_0_M1, q99_1_M1, q99_2_M1, q99_3_M1, q100_0_M1, q100_1_M1, q100_2_M1, q100_3_M1, q100_49_M1, q100_50_M1, q100_51_M1, q100_52_M1, q103_0_M1, q103_1_M1, q97_12_M1, q97_17_M1, q97_33_M1, q97_10_M1, q97_44_M1, q97_1_M1, fun q => by omega, fun q => by omega⟩
set_option maxHeartbeats 4000000 in
set_option maxRecDepth 100000 in
theorem c_X9_addSpoon_x (X : Cx) (M : Mm) (hi : IC M) (a : Int) (ha : inI a) : Con X 3 yX9_addSpoon cX9_addSpoon 2 (some .int) [vr X 0, vi a] M (Qi (fun r M1 => IC M1 ∧ Fr (fun c => c = 1 ∨ c = 7) M M1 ∧ M1 2 5 = M 2 5 ∧ M1 1 4 = M 1 4 ∧ M1 1 6 = M 1 6 ∧ M1 11 5 = M 11 5 ∧ M1 10 2 = M 10 2 ∧ M1 10 4 = M 10 4 ∧ M1 10 6 = M 10 6 ∧ M1 20 5 = M 20 5 ∧ M1 19 2 = M 19 2 ∧ M1 19 4 = M 19 4 ∧ M1 19 6 = M 19 6 ∧ M1 29 0 = M 29 0 ∧ M1 29 1 = M 29 1 ∧ M1 31 1 = M 31 1 ∧ M1 0 11 = M 0 11 ∧ M1 0 12 = M 0 12 ∧ M1 0 13 = M 0 13 ∧ M1 0 10 = M 0 10 ∧ ((((a < 1 ∨ 60 < a) → r = -1 ∧ M1 1 2 = M 1 2) ∧ (1 ≤ a → a ≤ 60 → 3 ≤ M 1 2 → r = -5 ∧ M1 1 2 = M 1 2) ∧ (1 ≤ a → a ≤ 60 → M 1 2 < 3 → r = M 1 2 ∧ M1 1 2 = M 1 2 + 1)) ∧ (¬ ((1 ≤ a ∧ a ≤ 60) ∧ M 1 2 < 3) → M1 7 = M 7) ∧ (((1 ≤ a ∧ a ≤ 60) ∧ M 1 2 < 3) → M1 7 = ms (M 7) (M 1 2).toNat a)))) := by
  refine Con.ofG rfl (Nat.le_of_ble_eq_true rfl) ?_
  show G X 3 RX9 cX9_addSpoon 2 (some .int) (Qi (fun r M1 => IC M1 ∧ Fr (fun c => c = 1 ∨ c = 7) M M1 ∧ M1 2 5 = M 2 5 ∧ M1 1 4 = M 1 4 ∧ M1 1 6 = M 1 6 ∧ M1 11 5 = M 11 5 ∧ M1 10 2 = M 10 2 ∧ M1 10 4 = M 10 4 ∧ M1 10 6 = M 10 6 ∧ M1 20 5 = M 20 5 ∧ M1 19 2 = M 19 2 ∧ M1 19 4 = M 19 4 ∧ M1 19 6 = M 19 6 ∧ M1 29 0 = M 29 0 ∧ M1 29 1 = M 29 1 ∧ M1 31 1 = M 31 1 ∧ M1 0 11 = M 0 11 ∧ M1 0 12 = M 0 12 ∧ M1 0 13 = M 0 13 ∧ M1 0 10 = M 0 10 ∧ ((((a < 1 ∨ 60 < a) → r = -1 ∧ M1 1 2 = M 1 2) ∧ (1 ≤ a → a ≤ 60 → 3 ≤ M 1 2 → r = -5 ∧ M1 1 2 = M 1 2) ∧ (1 ≤ a → a ≤ 60 → M 1 2 < 3 → r = M 1 2 ∧ M1 1 2 = M 1 2 + 1)) ∧ (¬ ((1 ≤ a ∧ a ≤ 60) ∧ M 1 2 < 3) → M1 7 = M 7) ∧ (((1 ≤ a ∧ a ≤ 60) ∧ M 1 2 < 3) → M1 7 = ms (M 7) (M 1 2).toNat a)))) 0 [(0, vr X 0), (1, vi a)] [] M
  have hi5 := (hi.1 2 isT_2).2.1
  have hi4 := (hi.1 2 isT_2).1
  have h12 := hi.2.1.1.1
  have h14 := hi.2.1.1.2.1
  have h16 := hi.2.1.1.2.2
  refine g_iload_n (pc' := 1) 1 dX9_addSpoon_0 rfl rfl ?_
  refine g_callSip (pc' := 4) (As := [vi a]) (S := []) dX9_addSpoon_1 rfl m_X9_82 w_X9_isAmount (c_X9_isAmount X M a ha) rfl (by decide) (by decide) rfl (Nat.le_of_ble_eq_true rfl) (fun z2 q1 => ?_)
  refine g_if_ne (pc' := 7) (tgt := 9) ⟨by omega, by omega⟩ dX9_addSpoon_4 rfl rfl (fun c3 => ?_) (fun c3 => ?_)
  · replace q1 := q1.resolve_right (fun h => c3 h.1)
    refine g_aload_n (pc' := 10) 0 dX9_addSpoon_9 rfl rfl ?_
    refine g_getR (pc' := 13) dX9_addSpoon_10 rfl f_X9_12 rfl rfl ?_
    refine g_getI (pc' := 16) dX9_addSpoon_13 rfl f_X9_207 rfl rfl (fun v4 ev4 rv4 => ?_)
    have bv4 : 0 ≤ v4 ∧ v4 ≤ 3 := by rw [ev4]; exact hi.2.1.1.1
    have av4 : v4 = M 1 2 := ev4
    refine g_iconst (pc' := 17) dX9_addSpoon_16 rfl ?_
    refine g_ic_lt (pc' := 20) (tgt := 23) rv4 (by decide) dX9_addSpoon_17 rfl rfl (fun c5 => ?_) (fun c5 => ?_)
    · refine g_aload_n (pc' := 24) 0 dX9_addSpoon_23 rfl rfl ?_
      refine g_getR (pc' := 27) dX9_addSpoon_24 rfl f_X9_12 rfl rfl ?_
      refine g_getR (pc' := 30) dX9_addSpoon_27 rfl f_X9_210 rfl rfl ?_
      refine g_aload_n (pc' := 31) 0 dX9_addSpoon_30 rfl rfl ?_
      refine g_getR (pc' := 34) dX9_addSpoon_31 rfl f_X9_12 rfl rfl ?_
      refine g_getI (pc' := 37) dX9_addSpoon_34 rfl f_X9_207 rfl rfl (fun v6 ev6 rv6 => ?_)
      obtain rfl : v4 = v6 := ev4.trans ev6.symm
      refine g_iload_n (pc' := 38) 1 dX9_addSpoon_37 rfl rfl ?_
      refine g_iast (pc' := 39) dX9_addSpoon_38 rfl rfl (by omega) (by omega) ha (fun M7 hM7 => ?_)
      have iM7 : IC M7 := IC.wr hi hM7 (by unfold okw isT; first | decide | omega)
      have fM7 : Fr (fun c => c = 1 ∨ c = 7) M M7 := Fr.wr Fr.rf hM7 (by first | decide | omega | (dsimp only; omega))
      have q2_5_M7 : id (M7 2 5 = M 2 5) := (show M7 2 5 = M 2 5 by rw [hM7]; exact mu_ne _ _ (by first | decide | omega))
      have q1_4_M7 : id (M7 1 4 = M 1 4) := (show M7 1 4 = M 1 4 by rw [hM7]; exact mu_ne _ _ (by first | decide | omega))
      have q1_6_M7 : id (M7 1 6 = M 1 6) := (show M7 1 6 = M 1 6 by rw [hM7]; exact mu_ne _ _ (by first | decide | omega))
      have q11_5_M7 : id (M7 11 5 = M 11 5) := (show M7 11 5 = M 11 5 by rw [hM7]; exact mu_ne _ _ (by first | decide | omega))
      have q10_2_M7 : id (M7 10 2 = M 10 2) := (show M7 10 2 = M 10 2 by rw [hM7]; exact mu_ne _ _ (by first | decide | omega))
      have q10_4_M7 : id (M7 10 4 = M 10 4) := (show M7 10 4 = M 10 4 by rw [hM7]; exact mu_ne _ _ (by first | decide | omega))
      have q10_6_M7 : id (M7 10 6 = M 10 6) := (show M7 10 6 = M 10 6 by rw [hM7]; exact mu_ne _ _ (by first | decide | omega))
      have q20_5_M7 : id (M7 20 5 = M 20 5) := (show M7 20 5 = M 20 5 by rw [hM7]; exact mu_ne _ _ (by first | decide | omega))
      have q19_2_M7 : id (M7 19 2 = M 19 2) := (show M7 19 2 = M 19 2 by rw [hM7]; exact mu_ne _ _ (by first | decide | omega))
      have q19_4_M7 : id (M7 19 4 = M 19 4) := (show M7 19 4 = M 19 4 by rw [hM7]; exact mu_ne _ _ (by first | decide | omega))
      have q19_6_M7 : id (M7 19 6 = M 19 6) := (show M7 19 6 = M 19 6 by rw [hM7]; exact mu_ne _ _ (by first | decide | omega))
      have q29_0_M7 : id (M7 29 0 = M 29 0) := (show M7 29 0 = M 29 0 by rw [hM7]; exact mu_ne _ _ (by first | decide | omega))
      have q29_1_M7 : id (M7 29 1 = M 29 1) := (show M7 29 1 = M 29 1 by rw [hM7]; exact mu_ne _ _ (by first | decide | omega))
      have q31_1_M7 : id (M7 31 1 = M 31 1) := (show M7 31 1 = M 31 1 by rw [hM7]; exact mu_ne _ _ (by first | decide | omega))
      have q0_11_M7 : id (M7 0 11 = M 0 11) := (show M7 0 11 = M 0 11 by rw [hM7]; exact mu_ne _ _ (by first | decide | omega))
      have q0_12_M7 : id (M7 0 12 = M 0 12) := (show M7 0 12 = M 0 12 by rw [hM7]; exact mu_ne _ _ (by first | decide | omega))
      have q0_13_M7 : id (M7 0 13 = M 0 13) := (show M7 0 13 = M 0 13 by rw [hM7]; exact mu_ne _ _ (by first | decide | omega))
      have q0_10_M7 : id (M7 0 10 = M 0 10) := (show M7 0 10 = M 0 10 by rw [hM7]; exact mu_ne _ _ (by first | decide | omega))
      have q1_2_M7 : (M7 1 2 = M 1 2) := (show M7 1 2 = M 1 2 by rw [hM7]; exact mu_ne _ _ (by first | decide | omega))
      have wM7_1_2 : M7 1 2 = M 1 2 := by rw [hM7]; exact mu_ne _ _ (by first | decide | omega)
      have c7M7 : M7 7 = ms (M 7) v4.toNat a := by rw [hM7, mu_is]
      refine g_aload_n (pc' := 40) 0 dX9_addSpoon_39 rfl rfl ?_
      refine g_getR (pc' := 43) dX9_addSpoon_40 rfl f_X9_12 rfl rfl ?_
      refine g_dup (pc' := 44) dX9_addSpoon_43 rfl rfl ?_
      refine g_getI (pc' := 47) dX9_addSpoon_44 rfl f_X9_207 rfl rfl (fun v8 ev8 rv8 => ?_)
      have bv8 : 0 ≤ v8 ∧ v8 ≤ 3 := by rw [ev8]; exact iM7.2.1.1.1
      have av8 : v8 = M 1 2 := ev8.trans q1_2_M7
      obtain rfl : v4 = v8 := av4.trans av8.symm
      refine g_iconst (pc' := 48) dX9_addSpoon_47 rfl ?_
      refine g_iadd (pc' := 49) dX9_addSpoon_48 rfl ?_
      refine g_putI (pc' := 52) dX9_addSpoon_49 rfl p_X9_207 rfl rfl ⟨by omega, by omega⟩ (fun M9 hM9 => ?_)
      have iM9 : IC M9 := IC.wr iM7 hM9 (by unfold okw isT; first | decide | omega)
      have fM9 : Fr (fun c => c = 1 ∨ c = 7) M M9 := Fr.wr fM7 hM9 (by first | decide | omega | (dsimp only; omega))
      have q2_5_M9 : id (M9 2 5 = M 2 5) := (show M9 2 5 = M7 2 5 by rw [hM9]; exact mu_ne _ _ (by first | decide | omega)).trans q2_5_M7
      have q1_4_M9 : id (M9 1 4 = M 1 4) := (show M9 1 4 = M7 1 4 by rw [hM9]; exact mu_ne _ _ (by first | decide | omega)).trans q1_4_M7
      have q1_6_M9 : id (M9 1 6 = M 1 6) := (show M9 1 6 = M7 1 6 by rw [hM9]; exact mu_ne _ _ (by first | decide | omega)).trans q1_6_M7
      have q11_5_M9 : id (M9 11 5 = M 11 5) := (show M9 11 5 = M7 11 5 by rw [hM9]; exact mu_ne _ _ (by first | decide | omega)).trans q11_5_M7
      have q10_2_M9 : id (M9 10 2 = M 10 2) := (show M9 10 2 = M7 10 2 by rw [hM9]; exact mu_ne _ _ (by first | decide | omega)).trans q10_2_M7
      have q10_4_M9 : id (M9 10 4 = M 10 4) := (show M9 10 4 = M7 10 4 by rw [hM9]; exact mu_ne _ _ (by first | decide | omega)).trans q10_4_M7
      have q10_6_M9 : id (M9 10 6 = M 10 6) := (show M9 10 6 = M7 10 6 by rw [hM9]; exact mu_ne _ _ (by first | decide | omega)).trans q10_6_M7
      have q20_5_M9 : id (M9 20 5 = M 20 5) := (show M9 20 5 = M7 20 5 by rw [hM9]; exact mu_ne _ _ (by first | decide | omega)).trans q20_5_M7
      have q19_2_M9 : id (M9 19 2 = M 19 2) := (show M9 19 2 = M7 19 2 by rw [hM9]; exact mu_ne _ _ (by first | decide | omega)).trans q19_2_M7
      have q19_4_M9 : id (M9 19 4 = M 19 4) := (show M9 19 4 = M7 19 4 by rw [hM9]; exact mu_ne _ _ (by first | decide | omega)).trans q19_4_M7
      have q19_6_M9 : id (M9 19 6 = M 19 6) := (show M9 19 6 = M7 19 6 by rw [hM9]; exact mu_ne _ _ (by first | decide | omega)).trans q19_6_M7
      have q29_0_M9 : id (M9 29 0 = M 29 0) := (show M9 29 0 = M7 29 0 by rw [hM9]; exact mu_ne _ _ (by first | decide | omega)).trans q29_0_M7
      have q29_1_M9 : id (M9 29 1 = M 29 1) := (show M9 29 1 = M7 29 1 by rw [hM9]; exact mu_ne _ _ (by first | decide | omega)).trans q29_1_M7
      have q31_1_M9 : id (M9 31 1 = M 31 1) := (show M9 31 1 = M7 31 1 by rw [hM9]; exact mu_ne _ _ (by first | decide | omega)).trans q31_1_M7
      have q0_11_M9 : id (M9 0 11 = M 0 11) := (show M9 0 11 = M7 0 11 by rw [hM9]; exact mu_ne _ _ (by first | decide | omega)).trans q0_11_M7
      have q0_12_M9 : id (M9 0 12 = M 0 12) := (show M9 0 12 = M7 0 12 by rw [hM9]; exact mu_ne _ _ (by first | decide | omega)).trans q0_12_M7
      have q0_13_M9 : id (M9 0 13 = M 0 13) := (show M9 0 13 = M7 0 13 by rw [hM9]; exact mu_ne _ _ (by first | decide | omega)).trans q0_13_M7
      have q0_10_M9 : id (M9 0 10 = M 0 10) := (show M9 0 10 = M7 0 10 by rw [hM9]; exact mu_ne _ _ (by first | decide | omega)).trans q0_10_M7
      have xM9_1_2 : M9 1 2 = v4 + 1 := by rw [hM9]; exact mu_at _ _ _ _
      have c7M9 : M9 7 = ms (M 7) v4.toNat a := (show M9 7 = M7 7 by rw [hM9]; exact mu_cell _ _ (by decide)).trans c7M7
      refine g_aload_n (pc' := 53) 0 dX9_addSpoon_52 rfl rfl ?_
      refine g_getR (pc' := 56) dX9_addSpoon_53 rfl f_X9_12 rfl rfl ?_
      refine g_getI (pc' := 59) dX9_addSpoon_56 rfl f_X9_207 rfl rfl (fun v10 ev10 rv10 => ?_)
      have bv10 : 0 ≤ v10 ∧ v10 ≤ 3 := by rw [ev10]; exact iM9.2.1.1.1
      have yv10 : v10 = v4 + 1 := ev10.trans xM9_1_2
      refine g_iconst (pc' := 60) dX9_addSpoon_59 rfl ?_
      refine g_isub (pc' := 61) dX9_addSpoon_60 rfl ?_
      refine g_ireturn dX9_addSpoon_61 ?_
      exact ⟨iM9, fM9, q2_5_M9, q1_4_M9, q1_6_M9, q11_5_M9, q10_2_M9, q10_4_M9, q10_6_M9, q20_5_M9, q19_2_M9, q19_4_M9, q19_6_M9, q29_0_M9, q29_1_M9, q31_1_M9, q0_11_M9, q0_12_M9, q0_13_M9, q0_10_M9, by omega, fun q => absurd (by omega) q, fun _ => by rw [c7M9, show v4 = M 1 2 by omega]⟩
    · refine g_bipush (pc' := 22) (v := (-5)) dX9_addSpoon_20 rfl (by decide) ?_
      refine g_ireturn dX9_addSpoon_22 ?_
      exact ⟨hi, Fr.rf, rfl, rfl, rfl, rfl, rfl, rfl, rfl, rfl, rfl, rfl, rfl, rfl, rfl, rfl, rfl, rfl, rfl, rfl, by omega, fun _ => rfl, fun q => absurd q (by omega)⟩
  · replace q1 := q1.resolve_left (fun h => absurd (c3.symm.trans h.1) (by decide))
    refine g_iconst (pc' := 8) dX9_addSpoon_7 rfl ?_
    refine g_ireturn dX9_addSpoon_8 ?_
    exact ⟨hi, Fr.rf, rfl, rfl, rfl, rfl, rfl, rfl, rfl, rfl, rfl, rfl, rfl, rfl, rfl, rfl, rfl, rfl, rfl, rfl, by omega, fun _ => rfl, fun q => absurd q (by omega)⟩
set_option maxHeartbeats 4000000 in
set_option maxRecDepth 100000 in
theorem c_X9_size_x (X : Cx) (M : Mm) (hi : IC M) (a : Int) (ha : inI a) : Con X 4 yX9_size cX9_size 2 (some .int) [vr X 0, vi a] M (Qi (fun r M1 => IC M1 ∧ Fr (fun c => c = 1 ∨ c = 7 ∨ c = 0 ∨ c = 96) M M1 ∧ M1 2 5 = M 2 5 ∧ M1 1 4 = M 1 4 ∧ M1 1 6 = M 1 6 ∧ M1 11 5 = M 11 5 ∧ M1 10 2 = M 10 2 ∧ M1 10 4 = M 10 4 ∧ M1 10 6 = M 10 6 ∧ M1 20 5 = M 20 5 ∧ M1 19 2 = M 19 2 ∧ M1 19 4 = M 19 4 ∧ M1 19 6 = M 19 6 ∧ M1 29 0 = M 29 0 ∧ M1 29 1 = M 29 1 ∧ M1 31 1 = M 31 1 ∧ M1 0 11 = M 0 11 ∧ M1 0 12 = M 0 12 ∧ M1 0 13 = M 0 13 ∧ ((((a < 1 ∨ 60 < a) → r = -1 ∧ M1 1 2 = M 1 2) ∧ (1 ≤ a → a ≤ 60 → 3 ≤ M 1 2 → r = -5 ∧ M1 1 2 = M 1 2) ∧ (1 ≤ a → a ≤ 60 → M 1 2 < 3 → r = M 1 2 ∧ M1 1 2 = M 1 2 + 1)) ∧ ((¬ ((1 ≤ a ∧ a ≤ 60) ∧ M 1 2 < 3) → M1 7 = M 7) ∧ (((1 ≤ a ∧ a ≤ 60) ∧ M 1 2 < 3) → M1 7 = ms (M 7) (M 1 2).toNat a)) ∧ M1 0 10 = ngv r ∧ M1 96 = ansF (M 96) r))) := by
  refine Con.ofG rfl (Nat.le_of_ble_eq_true rfl) ?_
  show G X 4 RX9 cX9_size 2 (some .int) (Qi (fun r M1 => IC M1 ∧ Fr (fun c => c = 1 ∨ c = 7 ∨ c = 0 ∨ c = 96) M M1 ∧ M1 2 5 = M 2 5 ∧ M1 1 4 = M 1 4 ∧ M1 1 6 = M 1 6 ∧ M1 11 5 = M 11 5 ∧ M1 10 2 = M 10 2 ∧ M1 10 4 = M 10 4 ∧ M1 10 6 = M 10 6 ∧ M1 20 5 = M 20 5 ∧ M1 19 2 = M 19 2 ∧ M1 19 4 = M 19 4 ∧ M1 19 6 = M 19 6 ∧ M1 29 0 = M 29 0 ∧ M1 29 1 = M 29 1 ∧ M1 31 1 = M 31 1 ∧ M1 0 11 = M 0 11 ∧ M1 0 12 = M 0 12 ∧ M1 0 13 = M 0 13 ∧ ((((a < 1 ∨ 60 < a) → r = -1 ∧ M1 1 2 = M 1 2) ∧ (1 ≤ a → a ≤ 60 → 3 ≤ M 1 2 → r = -5 ∧ M1 1 2 = M 1 2) ∧ (1 ≤ a → a ≤ 60 → M 1 2 < 3 → r = M 1 2 ∧ M1 1 2 = M 1 2 + 1)) ∧ ((¬ ((1 ≤ a ∧ a ≤ 60) ∧ M 1 2 < 3) → M1 7 = M 7) ∧ (((1 ≤ a ∧ a ≤ 60) ∧ M 1 2 < 3) → M1 7 = ms (M 7) (M 1 2).toNat a)) ∧ M1 0 10 = ngv r ∧ M1 96 = ansF (M 96) r))) 0 [(0, vr X 0), (1, vi a)] [] M
  have hi5 := (hi.1 2 isT_2).2.1
  have hi4 := (hi.1 2 isT_2).1
  have h12 := hi.2.1.1.1
  have h14 := hi.2.1.1.2.1
  have h16 := hi.2.1.1.2.2
  refine g_aload_n (pc' := 1) 0 dX9_size_0 rfl rfl ?_
  refine g_aload_n (pc' := 2) 0 dX9_size_1 rfl rfl ?_
  refine g_iload_n (pc' := 3) 1 dX9_size_2 rfl rfl ?_
  refine g_callVi (pc' := 6) (As := [vi a]) (b := 0) (S := [vr X 0]) dX9_size_3 rfl m_X9_204 w_X9_addSpoon (c_X9_addSpoon_x X M hi a ha) rfl ⟨_, _, _, rfl, rfl, rfl⟩ (by decide) (by decide) rfl (Nat.le_of_ble_eq_true rfl) (fun z2 M3 q1 => ?_)
  obtain ⟨iM3, fM30, eM3_2_5, eM3_1_4, eM3_1_6, eM3_11_5, eM3_10_2, eM3_10_4, eM3_10_6, eM3_20_5, eM3_19_2, eM3_19_4, eM3_19_6, eM3_29_0, eM3_29_1, eM3_31_1, eM3_0_11, eM3_0_12, eM3_0_13, eM3_0_10, pM3⟩ := q1
  have fM3 : Fr (fun c => c = 1 ∨ c = 7 ∨ c = 0 ∨ c = 96) M M3 := Fr.tr Fr.rf fM30 fi_16
  have q2_5_M3 : id (M3 2 5 = M 2 5) := eM3_2_5
  have q1_4_M3 : id (M3 1 4 = M 1 4) := eM3_1_4
  have q1_6_M3 : id (M3 1 6 = M 1 6) := eM3_1_6
  have q11_5_M3 : id (M3 11 5 = M 11 5) := eM3_11_5
  have q10_2_M3 : id (M3 10 2 = M 10 2) := eM3_10_2
  have q10_4_M3 : id (M3 10 4 = M 10 4) := eM3_10_4
  have q10_6_M3 : id (M3 10 6 = M 10 6) := eM3_10_6
  have q20_5_M3 : id (M3 20 5 = M 20 5) := eM3_20_5
  have q19_2_M3 : id (M3 19 2 = M 19 2) := eM3_19_2
  have q19_4_M3 : id (M3 19 4 = M 19 4) := eM3_19_4
  have q19_6_M3 : id (M3 19 6 = M 19 6) := eM3_19_6
  have q29_0_M3 : id (M3 29 0 = M 29 0) := eM3_29_0
  have q29_1_M3 : id (M3 29 1 = M 29 1) := eM3_29_1
  have q31_1_M3 : id (M3 31 1 = M 31 1) := eM3_31_1
  have q0_11_M3 : id (M3 0 11 = M 0 11) := eM3_0_11
  have q0_12_M3 : id (M3 0 12 = M 0 12) := eM3_0_12
  have q0_13_M3 : id (M3 0 13 = M 0 13) := eM3_0_13
  have q0_10_M3 : (M3 0 10 = M 0 10) := eM3_0_10
  have wM3_0_10 : M3 0 10 = M 0 10 := eM3_0_10
  clear eM3_2_5 eM3_1_4 eM3_1_6 eM3_11_5 eM3_10_2 eM3_10_4 eM3_10_6 eM3_20_5 eM3_19_2 eM3_19_4 eM3_19_6 eM3_29_0 eM3_29_1 eM3_31_1 eM3_0_11 eM3_0_12 eM3_0_13
  obtain ⟨prM3, pgM3⟩ := pM3
  have e96M3 := fM30 96 (by first | decide | omega | (dsimp only; omega))
  refine g_callVi (pc' := 9) (As := [vi z2]) (b := 0) (S := []) dX9_size_6 rfl m_X9_79 w_X9_answered (c_X9_answered_x X M3 iM3 z2 ⟨by omega, by omega⟩) rfl ⟨_, _, _, rfl, rfl, rfl⟩ (by decide) (by decide) rfl (Nat.le_of_ble_eq_true rfl) (fun z5 M6 q4 => ?_)
  obtain ⟨iM6, fM60, eM6_2_5, eM6_1_2, eM6_1_4, eM6_1_6, eM6_11_5, eM6_10_2, eM6_10_4, eM6_10_6, eM6_20_5, eM6_19_2, eM6_19_4, eM6_19_6, eM6_29_0, eM6_29_1, eM6_31_1, eM6_0_11, eM6_0_12, eM6_0_13, pM6⟩ := q4
  have fM6 : Fr (fun c => c = 1 ∨ c = 7 ∨ c = 0 ∨ c = 96) M M6 := Fr.tr fM3 fM60 fi_17
  have q2_5_M6 : id (M6 2 5 = M 2 5) := eM6_2_5.trans q2_5_M3
  have q1_4_M6 : id (M6 1 4 = M 1 4) := eM6_1_4.trans q1_4_M3
  have q1_6_M6 : id (M6 1 6 = M 1 6) := eM6_1_6.trans q1_6_M3
  have q11_5_M6 : id (M6 11 5 = M 11 5) := eM6_11_5.trans q11_5_M3
  have q10_2_M6 : id (M6 10 2 = M 10 2) := eM6_10_2.trans q10_2_M3
  have q10_4_M6 : id (M6 10 4 = M 10 4) := eM6_10_4.trans q10_4_M3
  have q10_6_M6 : id (M6 10 6 = M 10 6) := eM6_10_6.trans q10_6_M3
  have q20_5_M6 : id (M6 20 5 = M 20 5) := eM6_20_5.trans q20_5_M3
  have q19_2_M6 : id (M6 19 2 = M 19 2) := eM6_19_2.trans q19_2_M3
  have q19_4_M6 : id (M6 19 4 = M 19 4) := eM6_19_4.trans q19_4_M3
  have q19_6_M6 : id (M6 19 6 = M 19 6) := eM6_19_6.trans q19_6_M3
  have q29_0_M6 : id (M6 29 0 = M 29 0) := eM6_29_0.trans q29_0_M3
  have q29_1_M6 : id (M6 29 1 = M 29 1) := eM6_29_1.trans q29_1_M3
  have q31_1_M6 : id (M6 31 1 = M 31 1) := eM6_31_1.trans q31_1_M3
  have q0_11_M6 : id (M6 0 11 = M 0 11) := eM6_0_11.trans q0_11_M3
  have q0_12_M6 : id (M6 0 12 = M 0 12) := eM6_0_12.trans q0_12_M3
  have q0_13_M6 : id (M6 0 13 = M 0 13) := eM6_0_13.trans q0_13_M3
  have wM6_1_2 : M6 1 2 = M3 1 2 := eM6_1_2
  clear eM6_2_5 eM6_1_4 eM6_1_6 eM6_11_5 eM6_10_2 eM6_10_4 eM6_10_6 eM6_20_5 eM6_19_2 eM6_19_4 eM6_19_6 eM6_29_0 eM6_29_1 eM6_31_1 eM6_0_11 eM6_0_12 eM6_0_13
  obtain ⟨anM6, asM6, a96M6⟩ := pM6
  rw [e96M3] at a96M6
  subst anM6
  have faM6 := fM60 7 (by first | decide | omega | (dsimp only; omega))
  refine g_ireturn dX9_size_9 ?_
  exact ⟨iM6, fM6, q2_5_M6, q1_4_M6, q1_6_M6, q11_5_M6, q10_2_M6, q10_4_M6, q10_6_M6, q20_5_M6, q19_2_M6, q19_4_M6, q19_6_M6, q29_0_M6, q29_1_M6, q31_1_M6, q0_11_M6, q0_12_M6, q0_13_M6, by omega, (by rw [faM6]; exact pgM3), asM6, a96M6⟩
