set_option maxHeartbeats 4000000 in
set_option maxRecDepth 100000 in
theorem law_c19 (X : Cx) (b L : Nat) (xs : Nat → Int32) (C N : Nat) (hC : C + 0 ≤ 600000) (hN : N + 0 ≤ 7302249) (i : Int) (M : Mm) (hR : Rg M) (ic : IC M) (im : IM M) (crx : CX M) (h0 : 0 ≤ i) (h1 : i + 7 ≤ L) (hL : L ≤ 3584) (hk : ∀ M' : Mm, Rg M' → IC M' → IM M' → CX M' → J X.1 RL cL_law 4 ret (ELW X M' b L xs) C N Zl 1430 [(3, vi i), (2, vr X 97), (1, vr X 0), (0, .ref b)] []) : J X.1 RL cL_law 4 ret (ELW X M b L xs) C N Zl 764 [(3, vi i), (2, vr X 97), (1, vr X 0), (0, .ref b)] [] := by
  have cr := crx.1
  have wr := crx.2.1
  have gr := crx.2.2
  have bb := ICb ic
  refine j_aload (pc' := 765) 2 dL_law_764 rfl rfl ?_
  refine j_aload (pc' := 766) 3 dL_law_765 rfl rfl ?_
  refine j_iload_n (pc' := 767) 0 dL_law_766 rfl rfl ?_
  refine j_iconst (pc' := 768) dL_law_767 rfl ?_
  refine j_iadd (pc' := 769) dL_law_768 rfl ?_
  refine w_sld (pc' := 770) dL_law_769 rfl (by omega) (by omega) ?_
  refine w_call hC hN hR (pc' := 773) (As := [vi (sx xs (i + 1))]) (o := 0) (S := []) dL_law_770 rfl m_L_97 w_X9_size (c_X9_size_x X M ic (sx xs (i + 1)) (sx_in xs (i + 1))) rfl ⟨_, _, _, rfl, rfl, rfl⟩ (Nat.le_of_ble_eq_true rfl) (Nat.le_of_ble_eq_true rfl) rfl (Nat.le_of_ble_eq_true rfl) (fun v M1 hq hR1 => ?_)
  obtain ⟨r1, rfl, ic1, f1, e1_0, e1_1, e1_2, e1_3, e1_4, e1_5, e1_6, e1_7, e1_8, e1_9, e1_10, e1_11, e1_12, e1_13, e1_14, e1_15, e1_16, p1⟩ := hq
  have im1 : IM M1 := IM.fr im f1 (fun c z => by first | omega | (dsimp only at z; omega))
  have fd1 := frD (Fr.tr Fr.rf f1 fi_87)
  have wr1 : TR M1 := TR.fr wr (f1 32 (by decide)) (f1 106 (by decide)) (by omega) (by omega) (congrFun (f1 97 (by decide)) 17)
  show J X.1 RL cL_law 4 ret (ELW X M1 b L xs) C N Zl 773 [(3, vi i), (2, vr X 97), (1, vr X 0), (0, .ref b)] [vi r1]
  refine j_pop (pc' := 774) dL_law_773 rfl rfl ?_
  refine j_aload (pc' := 775) 1 dL_law_774 rfl rfl ?_
  refine j_aload (pc' := 776) 3 dL_law_775 rfl rfl ?_
  refine j_iload_n (pc' := 777) 0 dL_law_776 rfl rfl ?_
  refine j_iconst (pc' := 778) dL_law_777 rfl ?_
  refine j_iadd (pc' := 779) dL_law_778 rfl ?_
  refine w_sld (pc' := 780) dL_law_779 rfl (by omega) (by omega) ?_
  refine w_call hC hN hR1 (pc' := 783) (As := [vi (sx xs (i + 1))]) (o := 97) (S := []) dL_law_780 rfl m_L_100 w_X10_size (c_X10_size_x X M1 im1 (sx xs (i + 1)) (sx_in xs (i + 1))) rfl ⟨_, _, _, rfl, rfl, rfl⟩ (Nat.le_of_ble_eq_true rfl) (Nat.le_of_ble_eq_true rfl) rfl (Nat.le_of_ble_eq_true rfl) (fun v M2 hq hR2 => ?_)
  obtain ⟨r2, rfl, im2, f2, e2_0, e2_1, e2_2, e2_3, e2_4, e2_5, e2_6, e2_7, e2_8, e2_9, e2_10, e2_11, e2_12, e2_13, e2_14, e2_15, e2_16, e2_17, p2⟩ := hq
  have ic2 : IC M2 := IC.fr ic1 f2 (fun c z => by unfold free isT; first | omega | (dsimp only at z; omega))
  have fd2 := frC (Fr.tr Fr.rf f2 fi_77)
  have x2 := p2.2
  replace p2 := p2.1
  have wr2 : TR M2 := TR.fr wr1 (f2 32 (by decide)) (f2 106 (by decide)) (by omega) (congrFun (f2 0 (by decide)) 12) (by omega)
  show J X.1 RL cL_law 4 ret (ELW X M2 b L xs) C N Zl 783 [(3, vi i), (2, vr X 97), (1, vr X 0), (0, .ref b)] [vi r2]
  refine j_pop (pc' := 784) dL_law_783 rfl rfl ?_
  refine j_goto (tgt := 1430) dL_law_784 rfl ?_
  have F := Fr.tr (P := fun c => (fun c => c = 1 ∨ c = 7 ∨ c = 0 ∨ c = 96) c ∨ (fun c => c = 97 ∨ c = 98 ∨ c = 99) c) (Fr.tr Fr.rf f1 (fun c z => Or.inl z)) f2 (fun c z => Or.inr z)
  have k0_10 : M2 0 10 = M1 0 10 := congrFun (f2 0 (by first | decide | omega | (dsimp only; omega))) 10
  have k0_11 : M2 0 11 = M1 0 11 := congrFun (f2 0 (by first | decide | omega | (dsimp only; omega))) 11
  have k0_12 : M2 0 12 = M1 0 12 := congrFun (f2 0 (by first | decide | omega | (dsimp only; omega))) 12
  have k0_13 : M2 0 13 = M1 0 13 := congrFun (f2 0 (by first | decide | omega | (dsimp only; omega))) 13
  have k97_1 : M1 97 1 = M 97 1 := congrFun (f1 97 (by first | decide | omega | (dsimp only; omega))) 1
  have k97_10 : M1 97 10 = M 97 10 := congrFun (f1 97 (by first | decide | omega | (dsimp only; omega))) 10
  have k97_17 : M1 97 17 = M 97 17 := congrFun (f1 97 (by first | decide | omega | (dsimp only; omega))) 17
  have k97_33 : M1 97 33 = M 97 33 := congrFun (f1 97 (by first | decide | omega | (dsimp only; omega))) 33
  have k97_44 : M1 97 44 = M 97 44 := congrFun (f1 97 (by first | decide | omega | (dsimp only; omega))) 44
  obtain ⟨g1, g2, g3, g4, rf, ⟨g6a, g6b⟩, g7_⟩ := gr
  have k99_0 : M2 99 0 = M 99 0 := by omega
  obtain ⟨p1, x1⟩ := p1
  have k99_1 : 0 ≤ M1 99 1 := by unfold CR at cr; clear p1 p2; omega
  have hrr : r1 = r2 := (by unfold CR at cr; omega)
  have ha_ : -6 ≤ r2 := by unfold CR at cr; omega
  have gr2 : GR M2 := GR.k ⟨g1, g2, g3, g4, rf, ⟨g6a, g6b⟩, g7_⟩ F (fun c z => by unfold inT; first | omega | (dsimp only at z; omega)) (G1.fr g1 F (fun c z => by unfold inT; first | omega | (dsimp only at z; omega)) k99_0 (fun k h1 h2 => (x2.1 k h1 (by omega) (by omega)).trans (congrFun (f1 99 (by first | decide | omega | (dsimp only; omega))) k)) (fun j _ => congrFun ((f2 101 (by first | decide | omega | (dsimp only; omega))).trans (f1 101 (by first | decide | omega | (dsimp only; omega)))) j)) (GR.size g2 (by omega) (by unfold CR at cr; omega) (f1 99 (by first | decide | omega | (dsimp only; omega))) (f2 7 (by first | decide | omega | (dsimp only; omega))) (by omega) p1 x1.1.1 x1.1.2 x2.1 x2.2.1) (RFR.s2 rf ha_ hrr k0_10 x1.2.1 x2.2.2.1 (f2 96 (by first | decide | omega | (dsimp only; omega))) x1.2.2 (f1 98 (by first | decide | omega | (dsimp only; omega))) x2.2.2.2) ⟨by omega, by omega⟩ (by omega)
  exact hk M2 hR2 ic2 im2 ⟨by unfold CR at cr ⊢; omega, wr2, gr2⟩
set_option maxHeartbeats 4000000 in
set_option maxRecDepth 100000 in
theorem law_c20 (X : Cx) (b L : Nat) (xs : Nat → Int32) (C N : Nat) (hC : C + 0 ≤ 600000) (hN : N + 0 ≤ 7302249) (i : Int) (M : Mm) (hR : Rg M) (ic : IC M) (im : IM M) (crx : CX M) (h0 : 0 ≤ i) (h1 : i + 7 ≤ L) (hL : L ≤ 3584) (hk : ∀ M' : Mm, Rg M' → IC M' → IM M' → CX M' → J X.1 RL cL_law 4 ret (ELW X M' b L xs) C N Zl 1430 [(3, vi i), (2, vr X 97), (1, vr X 0), (0, .ref b)] []) : J X.1 RL cL_law 4 ret (ELW X M b L xs) C N Zl 787 [(3, vi i), (2, vr X 97), (1, vr X 0), (0, .ref b)] [] := by
  have cr := crx.1
  have wr := crx.2.1
  have gr := crx.2.2
  have bb := ICb ic
  refine j_aload (pc' := 788) 2 dL_law_787 rfl rfl ?_
  refine w_call hC hN hR (pc' := 791) (As := []) (o := 0) (S := []) dL_law_788 rfl m_L_101 w_X9_wash (c_X9_wash X M ic) rfl ⟨_, _, _, rfl, rfl, rfl⟩ (Nat.le_of_ble_eq_true rfl) (Nat.le_of_ble_eq_true rfl) rfl (Nat.le_of_ble_eq_true rfl) (fun v M1 hq hR1 => ?_)
  obtain ⟨r1, rfl, ic1, f1, e1_0, e1_1, e1_2, e1_3, e1_4, e1_5, e1_6, e1_7, e1_8, e1_9, e1_10, e1_11, e1_12, e1_13, e1_14, e1_15, e1_16, p1⟩ := hq
  have im1 : IM M1 := IM.fr im f1 (fun c z => by first | omega | (dsimp only at z; omega))
  have fd1 := frD (Fr.tr Fr.rf f1 fi_88)
  have wr1 : TR M1 := TR.fr wr (f1 32 (by decide)) (f1 106 (by decide)) (by omega) (by omega) (congrFun (f1 97 (by decide)) 17)
  show J X.1 RL cL_law 4 ret (ELW X M1 b L xs) C N Zl 791 [(3, vi i), (2, vr X 97), (1, vr X 0), (0, .ref b)] [vi r1]
  refine j_pop (pc' := 792) dL_law_791 rfl rfl ?_
  refine j_aload (pc' := 793) 1 dL_law_792 rfl rfl ?_
  refine w_call hC hN hR1 (pc' := 796) (As := []) (o := 97) (S := []) dL_law_793 rfl m_L_104 w_X10_wash (c_X10_wash_x X M1 im1) rfl ⟨_, _, _, rfl, rfl, rfl⟩ (Nat.le_of_ble_eq_true rfl) (Nat.le_of_ble_eq_true rfl) rfl (Nat.le_of_ble_eq_true rfl) (fun v M2 hq hR2 => ?_)
  obtain ⟨r2, rfl, im2, f2, e2_0, e2_1, e2_2, e2_3, e2_4, e2_5, e2_6, e2_7, e2_8, e2_9, e2_10, e2_11, e2_12, e2_13, e2_14, e2_15, e2_16, e2_17, p2⟩ := hq
  have ic2 : IC M2 := IC.fr ic1 f2 (fun c z => by unfold free isT; first | omega | (dsimp only at z; omega))
  have fd2 := frC (Fr.tr Fr.rf f2 fi_89)
  have x2 := p2.2
  replace p2 := p2.1
  have wr2 : TR M2 := TR.fr wr1 (f2 32 (by decide)) (f2 106 (by decide)) (by omega) (congrFun (f2 0 (by decide)) 12) (by omega)
  show J X.1 RL cL_law 4 ret (ELW X M2 b L xs) C N Zl 796 [(3, vi i), (2, vr X 97), (1, vr X 0), (0, .ref b)] [vi r2]
  refine j_pop (pc' := 797) dL_law_796 rfl rfl ?_
  refine j_goto (tgt := 1430) dL_law_797 rfl ?_
  have F := Fr.tr (P := fun c => (fun c => c = 1) c ∨ (fun c => c = 97 ∨ c = 99) c) (Fr.tr Fr.rf f1 (fun c z => Or.inl z)) f2 (fun c z => Or.inr z)
  have k0_10 : M2 0 10 = M1 0 10 := congrFun (f2 0 (by first | decide | omega | (dsimp only; omega))) 10
  have k0_11 : M2 0 11 = M1 0 11 := congrFun (f2 0 (by first | decide | omega | (dsimp only; omega))) 11
  have k0_12 : M2 0 12 = M1 0 12 := congrFun (f2 0 (by first | decide | omega | (dsimp only; omega))) 12
  have k0_13 : M2 0 13 = M1 0 13 := congrFun (f2 0 (by first | decide | omega | (dsimp only; omega))) 13
  have k97_1 : M1 97 1 = M 97 1 := congrFun (f1 97 (by first | decide | omega | (dsimp only; omega))) 1
  have k97_10 : M1 97 10 = M 97 10 := congrFun (f1 97 (by first | decide | omega | (dsimp only; omega))) 10
  have k97_17 : M1 97 17 = M 97 17 := congrFun (f1 97 (by first | decide | omega | (dsimp only; omega))) 17
  have k97_33 : M1 97 33 = M 97 33 := congrFun (f1 97 (by first | decide | omega | (dsimp only; omega))) 33
  have k97_44 : M1 97 44 = M 97 44 := congrFun (f1 97 (by first | decide | omega | (dsimp only; omega))) 44
  obtain ⟨g1, g2, g3, g4, rf, ⟨g6a, g6b⟩, g7_⟩ := gr
  have k99_0 : M2 99 0 = M 99 0 := by omega
  have gr2 : GR M2 := GR.k ⟨g1, g2, g3, g4, rf, ⟨g6a, g6b⟩, g7_⟩ F (fun c z => by unfold inT; first | omega | (dsimp only at z; omega)) (G1.fr g1 F (fun c z => by unfold inT; first | omega | (dsimp only at z; omega)) k99_0 (fun k h1 h2 => (x2 k h1 (by omega)).trans (congrFun (f1 99 (by first | decide | omega | (dsimp only; omega))) k)) (fun j _ => congrFun ((f2 101 (by first | decide | omega | (dsimp only; omega))).trans (f1 101 (by first | decide | omega | (dsimp only; omega)))) j)) (G2.zero (by omega)) (RFR.fr rf (by omega) (by omega) ((f2 96 (by first | decide | omega | (dsimp only; omega))).trans (f1 96 (by first | decide | omega | (dsimp only; omega)))) ((f2 98 (by first | decide | omega | (dsimp only; omega))).trans (f1 98 (by first | decide | omega | (dsimp only; omega))))) ⟨by omega, by omega⟩ (by omega)
  exact hk M2 hR2 ic2 im2 ⟨by unfold CR at cr ⊢; omega, wr2, gr2⟩
set_option maxHeartbeats 4000000 in
set_option maxRecDepth 100000 in
theorem law_c21 (X : Cx) (b L : Nat) (xs : Nat → Int32) (C N : Nat) (hC : C + 0 ≤ 600000) (hN : N + 0 ≤ 7302249) (i : Int) (M : Mm) (hR : Rg M) (ic : IC M) (im : IM M) (crx : CX M) (h0 : 0 ≤ i) (h1 : i + 7 ≤ L) (hL : L ≤ 3584) (hk : ∀ M' : Mm, Rg M' → IC M' → IM M' → CX M' → J X.1 RL cL_law 4 ret (ELW X M' b L xs) C N Zl 1430 [(3, vi i), (2, vr X 97), (1, vr X 0), (0, .ref b)] []) : J X.1 RL cL_law 4 ret (ELW X M b L xs) C N Zl 800 [(3, vi i), (2, vr X 97), (1, vr X 0), (0, .ref b)] [] := by
  have cr := crx.1
  have wr := crx.2.1
  have gr := crx.2.2
  have bb := ICb ic
  refine j_aload (pc' := 801) 2 dL_law_800 rfl rfl ?_
  refine j_aload (pc' := 802) 3 dL_law_801 rfl rfl ?_
  refine j_iload_n (pc' := 803) 0 dL_law_802 rfl rfl ?_
  refine j_iconst (pc' := 804) dL_law_803 rfl ?_
  refine j_iadd (pc' := 805) dL_law_804 rfl ?_
  refine w_sld (pc' := 806) dL_law_805 rfl (by omega) (by omega) ?_
  refine j_aload (pc' := 807) 3 dL_law_806 rfl rfl ?_
  refine j_iload_n (pc' := 808) 0 dL_law_807 rfl rfl ?_
  refine j_iconst (pc' := 809) dL_law_808 rfl ?_
  refine j_iadd (pc' := 810) dL_law_809 rfl ?_
  refine w_sld (pc' := 811) dL_law_810 rfl (by omega) (by omega) ?_
  refine j_aload (pc' := 812) 3 dL_law_811 rfl rfl ?_
  refine j_iload_n (pc' := 813) 0 dL_law_812 rfl rfl ?_
  refine j_iconst (pc' := 814) dL_law_813 rfl ?_
  refine j_iadd (pc' := 815) dL_law_814 rfl ?_
  refine w_sld (pc' := 816) dL_law_815 rfl (by omega) (by omega) ?_
  refine j_aload (pc' := 817) 3 dL_law_816 rfl rfl ?_
  refine j_iload_n (pc' := 818) 0 dL_law_817 rfl rfl ?_
  refine j_iconst (pc' := 819) dL_law_818 rfl ?_
  refine j_iadd (pc' := 820) dL_law_819 rfl ?_
  refine w_sld (pc' := 821) dL_law_820 rfl (by omega) (by omega) ?_
  refine j_aload (pc' := 822) 3 dL_law_821 rfl rfl ?_
  refine j_iload_n (pc' := 823) 0 dL_law_822 rfl rfl ?_
  refine j_iconst (pc' := 824) dL_law_823 rfl ?_
  refine j_iadd (pc' := 825) dL_law_824 rfl ?_
  refine w_sld (pc' := 826) dL_law_825 rfl (by omega) (by omega) ?_
  refine j_aload (pc' := 827) 3 dL_law_826 rfl rfl ?_
  refine j_iload_n (pc' := 828) 0 dL_law_827 rfl rfl ?_
  refine j_bipush (pc' := 830) (v := 6) dL_law_828 rfl (by decide) ?_
  refine j_iadd (pc' := 831) dL_law_830 rfl ?_
  refine w_sld (pc' := 832) dL_law_831 rfl (by omega) (by omega) ?_
  refine w_call hC hN hR (pc' := 835) (As := [vi (sx xs (i + 1)), vi (sx xs (i + 2)), vi (sx xs (i + 3)), vi (sx xs (i + 4)), vi (sx xs (i + 5)), vi (sx xs (i + 6))]) (o := 0) (S := []) dL_law_832 rfl m_L_105 w_X9_reach (c_X9_reach X M ic (sx xs (i + 1)) (sx_in xs (i + 1)) (sx xs (i + 2)) (sx_in xs (i + 2)) (sx xs (i + 3)) (sx_in xs (i + 3)) (sx xs (i + 4)) (sx_in xs (i + 4)) (sx xs (i + 5)) (sx_in xs (i + 5)) (sx xs (i + 6)) (sx_in xs (i + 6))) rfl ⟨_, _, _, rfl, rfl, rfl⟩ (Nat.le_of_ble_eq_true rfl) (Nat.le_of_ble_eq_true rfl) rfl (Nat.le_of_ble_eq_true rfl) (fun v M1 hq hR1 => ?_)
  obtain ⟨r1, rfl, ic1, f1, e1_0, e1_1, e1_2, e1_3, e1_4, e1_5, e1_6, e1_7, e1_8, e1_9, e1_10, e1_11, e1_12, e1_13, e1_14, e1_15, e1_16, e1_17, e1_18, p1⟩ := hq
  have im1 : IM M1 := IM.fr im f1 (fun c z => by first | omega | (dsimp only at z; omega))
  have fd1 := frD (Fr.tr Fr.rf f1 fi_90)
  have wr1 : TR M1 := TR.fr wr (f1 32 (by decide)) (f1 106 (by decide)) (by omega) (by omega) (congrFun (f1 97 (by decide)) 17)
  show J X.1 RL cL_law 4 ret (ELW X M1 b L xs) C N Zl 835 [(3, vi i), (2, vr X 97), (1, vr X 0), (0, .ref b)] [vi r1]
  refine j_pop (pc' := 836) dL_law_835 rfl rfl ?_
  refine j_aload (pc' := 837) 1 dL_law_836 rfl rfl ?_
  refine j_aload (pc' := 838) 3 dL_law_837 rfl rfl ?_
  refine j_iload_n (pc' := 839) 0 dL_law_838 rfl rfl ?_
  refine j_iconst (pc' := 840) dL_law_839 rfl ?_
  refine j_iadd (pc' := 841) dL_law_840 rfl ?_
  refine w_sld (pc' := 842) dL_law_841 rfl (by omega) (by omega) ?_
  refine j_aload (pc' := 843) 3 dL_law_842 rfl rfl ?_
  refine j_iload_n (pc' := 844) 0 dL_law_843 rfl rfl ?_
  refine j_iconst (pc' := 845) dL_law_844 rfl ?_
  refine j_iadd (pc' := 846) dL_law_845 rfl ?_
  refine w_sld (pc' := 847) dL_law_846 rfl (by omega) (by omega) ?_
  refine j_aload (pc' := 848) 3 dL_law_847 rfl rfl ?_
  refine j_iload_n (pc' := 849) 0 dL_law_848 rfl rfl ?_
  refine j_iconst (pc' := 850) dL_law_849 rfl ?_
  refine j_iadd (pc' := 851) dL_law_850 rfl ?_
  refine w_sld (pc' := 852) dL_law_851 rfl (by omega) (by omega) ?_
  refine j_aload (pc' := 853) 3 dL_law_852 rfl rfl ?_
  refine j_iload_n (pc' := 854) 0 dL_law_853 rfl rfl ?_
  refine j_iconst (pc' := 855) dL_law_854 rfl ?_
  refine j_iadd (pc' := 856) dL_law_855 rfl ?_
  refine w_sld (pc' := 857) dL_law_856 rfl (by omega) (by omega) ?_
  refine j_aload (pc' := 858) 3 dL_law_857 rfl rfl ?_
  refine j_iload_n (pc' := 859) 0 dL_law_858 rfl rfl ?_
  refine j_iconst (pc' := 860) dL_law_859 rfl ?_
  refine j_iadd (pc' := 861) dL_law_860 rfl ?_
  refine w_sld (pc' := 862) dL_law_861 rfl (by omega) (by omega) ?_
  refine j_aload (pc' := 863) 3 dL_law_862 rfl rfl ?_
  refine j_iload_n (pc' := 864) 0 dL_law_863 rfl rfl ?_
  refine j_bipush (pc' := 866) (v := 6) dL_law_864 rfl (by decide) ?_
  refine j_iadd (pc' := 867) dL_law_866 rfl ?_
  refine w_sld (pc' := 868) dL_law_867 rfl (by omega) (by omega) ?_
  refine w_call hC hN hR1 (pc' := 871) (As := [vi (sx xs (i + 1)), vi (sx xs (i + 2)), vi (sx xs (i + 3)), vi (sx xs (i + 4)), vi (sx xs (i + 5)), vi (sx xs (i + 6))]) (o := 97) (S := []) dL_law_868 rfl m_L_109 w_X10_reach (c_X10_reach_x X M1 im1 (sx xs (i + 1)) (sx_in xs (i + 1)) (sx xs (i + 2)) (sx_in xs (i + 2)) (sx xs (i + 3)) (sx_in xs (i + 3)) (sx xs (i + 4)) (sx_in xs (i + 4)) (sx xs (i + 5)) (sx_in xs (i + 5)) (sx xs (i + 6)) (sx_in xs (i + 6))) rfl ⟨_, _, _, rfl, rfl, rfl⟩ (Nat.le_of_ble_eq_true rfl) (Nat.le_of_ble_eq_true rfl) rfl (Nat.le_of_ble_eq_true rfl) (fun v M2 hq hR2 => ?_)
  obtain ⟨r2, rfl, im2, f2, e2_0, e2_1, e2_2, e2_3, e2_4, e2_5, e2_6, e2_7, e2_8, e2_9, e2_10, e2_11, e2_12, e2_13, e2_14, e2_15, e2_16, e2_17, e2_18, e2_19, p2⟩ := hq
  have ic2 : IC M2 := IC.fr ic1 f2 (fun c z => by unfold free isT; first | omega | (dsimp only at z; omega))
  have fd2 := frC (Fr.tr Fr.rf f2 fi_91)
  have wr2 : TR M2 := TR.fr wr1 (f2 32 (by decide)) (f2 106 (by decide)) (by omega) (congrFun (f2 0 (by decide)) 12) (by omega)
  show J X.1 RL cL_law 4 ret (ELW X M2 b L xs) C N Zl 871 [(3, vi i), (2, vr X 97), (1, vr X 0), (0, .ref b)] [vi r2]
  refine j_pop (pc' := 872) dL_law_871 rfl rfl ?_
  refine j_goto (tgt := 1430) dL_law_872 rfl ?_
  have F := Fr.tr (P := fun c => (fun c => (60 ≤ c ∧ c ≤ 83)) c ∨ (fun c => c = 97 ∨ c = 101 ∨ c = 104 ∨ c = 105 ∨ c = 113 ∨ c = 114) c) (Fr.tr Fr.rf f1 (fun c z => Or.inl z)) f2 (fun c z => Or.inr z)
  have k0_10 : M2 0 10 = M1 0 10 := congrFun (f2 0 (by first | decide | omega | (dsimp only; omega))) 10
  have k0_11 : M2 0 11 = M1 0 11 := congrFun (f2 0 (by first | decide | omega | (dsimp only; omega))) 11
  have k0_12 : M2 0 12 = M1 0 12 := congrFun (f2 0 (by first | decide | omega | (dsimp only; omega))) 12
  have k0_13 : M2 0 13 = M1 0 13 := congrFun (f2 0 (by first | decide | omega | (dsimp only; omega))) 13
  have k97_1 : M1 97 1 = M 97 1 := congrFun (f1 97 (by first | decide | omega | (dsimp only; omega))) 1
  have k97_10 : M1 97 10 = M 97 10 := congrFun (f1 97 (by first | decide | omega | (dsimp only; omega))) 10
  have k97_17 : M1 97 17 = M 97 17 := congrFun (f1 97 (by first | decide | omega | (dsimp only; omega))) 17
  have k97_33 : M1 97 33 = M 97 33 := congrFun (f1 97 (by first | decide | omega | (dsimp only; omega))) 33
  have k97_44 : M1 97 44 = M 97 44 := congrFun (f1 97 (by first | decide | omega | (dsimp only; omega))) 44
  obtain ⟨g1, g2, g3, g4, rf, ⟨g6a, g6b⟩, g7_⟩ := gr
  have k99_0 : M2 99 0 = M 99 0 := congrFun ((f2 99 (by first | decide | omega | (dsimp only; omega))).trans (f1 99 (by first | decide | omega | (dsimp only; omega)))) 0
  have gr2 : GR M2 := GR.k ⟨g1, g2, g3, g4, rf, ⟨g6a, g6b⟩, g7_⟩ F (fun c z => by unfold inT; first | omega | (dsimp only at z; omega)) (G1.fr g1 F (fun c z => by unfold inT; first | omega | (dsimp only at z; omega)) k99_0 (fun k _ _ => congrFun ((f2 99 (by first | decide | omega | (dsimp only; omega))).trans (f1 99 (by first | decide | omega | (dsimp only; omega)))) k) (by rw [← show M1 101 = M 101 from (f1 101 (by first | decide | omega | (dsimp only; omega)))]; exact p2.2)) (G2.fr g2 ((f2 7 (by first | decide | omega | (dsimp only; omega))).trans (f1 7 (by first | decide | omega | (dsimp only; omega)))) (by omega) (by omega) (fun k _ _ => congrFun ((f2 99 (by first | decide | omega | (dsimp only; omega))).trans (f1 99 (by first | decide | omega | (dsimp only; omega)))) k)) (RFR.fr rf (by omega) (by omega) ((f2 96 (by first | decide | omega | (dsimp only; omega))).trans (f1 96 (by first | decide | omega | (dsimp only; omega)))) ((f2 98 (by first | decide | omega | (dsimp only; omega))).trans (f1 98 (by first | decide | omega | (dsimp only; omega))))) ⟨by omega, by omega⟩ (by omega)
  exact hk M2 hR2 ic2 im2 ⟨by unfold CR at cr ⊢; omega, wr2, gr2⟩
set_option maxHeartbeats 4000000 in
set_option maxRecDepth 100000 in
theorem law_c22 (X : Cx) (b L : Nat) (xs : Nat → Int32) (C N : Nat) (hC : C + 0 ≤ 600000) (hN : N + 0 ≤ 7302249) (i : Int) (M : Mm) (hR : Rg M) (ic : IC M) (im : IM M) (crx : CX M) (h0 : 0 ≤ i) (h1 : i + 7 ≤ L) (hL : L ≤ 3584) (hk : ∀ M' : Mm, Rg M' → IC M' → IM M' → CX M' → J X.1 RL cL_law 4 ret (ELW X M' b L xs) C N Zl 1430 [(3, vi i), (2, vr X 97), (1, vr X 0), (0, .ref b)] []) : J X.1 RL cL_law 4 ret (ELW X M b L xs) C N Zl 875 [(3, vi i), (2, vr X 97), (1, vr X 0), (0, .ref b)] [] := by
  have cr := crx.1
  have wr := crx.2.1
  have gr := crx.2.2
  have bb := ICb ic
  refine j_aload (pc' := 876) 2 dL_law_875 rfl rfl ?_
  refine j_aload (pc' := 877) 3 dL_law_876 rfl rfl ?_
  refine j_iload_n (pc' := 878) 0 dL_law_877 rfl rfl ?_
  refine j_iconst (pc' := 879) dL_law_878 rfl ?_
  refine j_iadd (pc' := 880) dL_law_879 rfl ?_
  refine w_sld (pc' := 881) dL_law_880 rfl (by omega) (by omega) ?_
  refine j_aload (pc' := 882) 3 dL_law_881 rfl rfl ?_
  refine j_iload_n (pc' := 883) 0 dL_law_882 rfl rfl ?_
  refine j_iconst (pc' := 884) dL_law_883 rfl ?_
  refine j_iadd (pc' := 885) dL_law_884 rfl ?_
  refine w_sld (pc' := 886) dL_law_885 rfl (by omega) (by omega) ?_
  refine j_aload (pc' := 887) 3 dL_law_886 rfl rfl ?_
  refine j_iload_n (pc' := 888) 0 dL_law_887 rfl rfl ?_
  refine j_iconst (pc' := 889) dL_law_888 rfl ?_
  refine j_iadd (pc' := 890) dL_law_889 rfl ?_
  refine w_sld (pc' := 891) dL_law_890 rfl (by omega) (by omega) ?_
  refine w_call hC hN hR (pc' := 894) (As := [vi (sx xs (i + 1)), vi (sx xs (i + 2)), vi (sx xs (i + 3))]) (o := 0) (S := []) dL_law_891 rfl m_L_110 w_X9_tasting (c_X9_tasting_x X M ic (sx xs (i + 1)) (sx_in xs (i + 1)) (sx xs (i + 2)) (sx_in xs (i + 2)) (sx xs (i + 3)) (sx_in xs (i + 3))) rfl ⟨_, _, _, rfl, rfl, rfl⟩ (Nat.le_of_ble_eq_true rfl) (Nat.le_of_ble_eq_true rfl) rfl (Nat.le_of_ble_eq_true rfl) (fun v M1 hq hR1 => ?_)
  obtain ⟨r1, rfl, ic1, f1, e1_0, e1_1, e1_2, e1_3, e1_4, e1_5, e1_6, e1_7, e1_8, e1_9, e1_10, e1_11, e1_12, e1_13, e1_14, e1_15, e1_16, p1⟩ := hq
  have im1 : IM M1 := IM.fr im f1 (fun c z => by first | omega | (dsimp only at z; omega))
  have fd1 := frD (Fr.tr Fr.rf f1 fi_92)
  have x1 := p1.2
  replace p1 := p1.1
  have wr1 : TR M1 := TR.fr wr (f1 32 (by decide)) (f1 106 (by decide)) (by omega) (by omega) (congrFun (f1 97 (by decide)) 17)
  show J X.1 RL cL_law 4 ret (ELW X M1 b L xs) C N Zl 894 [(3, vi i), (2, vr X 97), (1, vr X 0), (0, .ref b)] [vi r1]
  refine j_pop (pc' := 895) dL_law_894 rfl rfl ?_
  refine j_aload (pc' := 896) 1 dL_law_895 rfl rfl ?_
  refine j_aload (pc' := 897) 3 dL_law_896 rfl rfl ?_
  refine j_iload_n (pc' := 898) 0 dL_law_897 rfl rfl ?_
  refine j_iconst (pc' := 899) dL_law_898 rfl ?_
  refine j_iadd (pc' := 900) dL_law_899 rfl ?_
  refine w_sld (pc' := 901) dL_law_900 rfl (by omega) (by omega) ?_
  refine j_aload (pc' := 902) 3 dL_law_901 rfl rfl ?_
  refine j_iload_n (pc' := 903) 0 dL_law_902 rfl rfl ?_
  refine j_iconst (pc' := 904) dL_law_903 rfl ?_
  refine j_iadd (pc' := 905) dL_law_904 rfl ?_
  refine w_sld (pc' := 906) dL_law_905 rfl (by omega) (by omega) ?_
  refine j_aload (pc' := 907) 3 dL_law_906 rfl rfl ?_
  refine j_iload_n (pc' := 908) 0 dL_law_907 rfl rfl ?_
  refine j_iconst (pc' := 909) dL_law_908 rfl ?_
  refine j_iadd (pc' := 910) dL_law_909 rfl ?_
  refine w_sld (pc' := 911) dL_law_910 rfl (by omega) (by omega) ?_
  refine w_call hC hN hR1 (pc' := 914) (As := [vi (sx xs (i + 1)), vi (sx xs (i + 2)), vi (sx xs (i + 3))]) (o := 97) (S := []) dL_law_911 rfl m_L_113 w_X10_tasting (c_X10_tasting_x X M1 im1 (sx xs (i + 1)) (sx_in xs (i + 1)) (sx xs (i + 2)) (sx_in xs (i + 2)) (sx xs (i + 3)) (sx_in xs (i + 3))) rfl ⟨_, _, _, rfl, rfl, rfl⟩ (Nat.le_of_ble_eq_true rfl) (Nat.le_of_ble_eq_true rfl) rfl (Nat.le_of_ble_eq_true rfl) (fun v M2 hq hR2 => ?_)
  obtain ⟨r2, rfl, im2, f2, e2_0, e2_1, e2_2, e2_3, e2_4, e2_5, e2_6, e2_7, e2_8, e2_9, e2_10, e2_11, e2_12, e2_13, e2_14, e2_15, e2_16, e2_17, p2⟩ := hq
  have ic2 : IC M2 := IC.fr ic1 f2 (fun c z => by unfold free isT; first | omega | (dsimp only at z; omega))
  have fd2 := frC (Fr.tr Fr.rf f2 fi_77)
  have x2 := p2.2
  replace p2 := p2.1
  have wr2 : TR M2 := TR.fr wr1 (f2 32 (by decide)) (f2 106 (by decide)) (by omega) (congrFun (f2 0 (by decide)) 12) (by omega)
  show J X.1 RL cL_law 4 ret (ELW X M2 b L xs) C N Zl 914 [(3, vi i), (2, vr X 97), (1, vr X 0), (0, .ref b)] [vi r2]
  refine j_pop (pc' := 915) dL_law_914 rfl rfl ?_
  refine j_goto (tgt := 1430) dL_law_915 rfl ?_
  have ha_ : -6 ≤ r2 := by unfold CR at cr; clear p1; omega
  have dt := det_tasting p1 p2 (by unfold CR at cr; omega) (by unfold CR at cr; omega)
  clear p1 p2
  have F := Fr.tr (P := fun c => (fun c => c = 1 ∨ c = 8 ∨ c = 0 ∨ c = 96) c ∨ (fun c => c = 97 ∨ c = 98 ∨ c = 99) c) (Fr.tr Fr.rf f1 (fun c z => Or.inl z)) f2 (fun c z => Or.inr z)
  have k0_10 : M2 0 10 = M1 0 10 := congrFun (f2 0 (by first | decide | omega | (dsimp only; omega))) 10
  have k0_11 : M2 0 11 = M1 0 11 := congrFun (f2 0 (by first | decide | omega | (dsimp only; omega))) 11
  have k0_12 : M2 0 12 = M1 0 12 := congrFun (f2 0 (by first | decide | omega | (dsimp only; omega))) 12
  have k0_13 : M2 0 13 = M1 0 13 := congrFun (f2 0 (by first | decide | omega | (dsimp only; omega))) 13
  have k97_1 : M1 97 1 = M 97 1 := congrFun (f1 97 (by first | decide | omega | (dsimp only; omega))) 1
  have k97_10 : M1 97 10 = M 97 10 := congrFun (f1 97 (by first | decide | omega | (dsimp only; omega))) 10
  have k97_17 : M1 97 17 = M 97 17 := congrFun (f1 97 (by first | decide | omega | (dsimp only; omega))) 17
  have k97_33 : M1 97 33 = M 97 33 := congrFun (f1 97 (by first | decide | omega | (dsimp only; omega))) 33
  have k97_44 : M1 97 44 = M 97 44 := congrFun (f1 97 (by first | decide | omega | (dsimp only; omega))) 44
  obtain ⟨g1, g2, g3, g4, rf, ⟨g6a, g6b⟩, g7_⟩ := gr
  have k99_0 : M2 99 0 = M 99 0 := by omega
  have hrr : r1 = r2 := dt.1
  have gr2 : GR M2 := GR.k ⟨g1, g2, g3, g4, rf, ⟨g6a, g6b⟩, g7_⟩ F (fun c z => by unfold inT; first | omega | (dsimp only at z; omega)) (G1.fr g1 F (fun c z => by unfold inT; first | omega | (dsimp only at z; omega)) k99_0 (fun k h1 h2 => (x2.1 k h1 (by omega)).trans (congrFun (f1 99 (by first | decide | omega | (dsimp only; omega))) k)) (fun j _ => congrFun ((f2 101 (by first | decide | omega | (dsimp only; omega))).trans (f1 101 (by first | decide | omega | (dsimp only; omega)))) j)) (G2.fr g2 ((f2 7 (by first | decide | omega | (dsimp only; omega))).trans (f1 7 (by first | decide | omega | (dsimp only; omega)))) (by omega) (by omega) (fun k h1 h2 => (x2.1 k h1 (by omega)).trans (congrFun (f1 99 (by first | decide | omega | (dsimp only; omega))) k))) (RFR.s2 rf ha_ hrr k0_10 x1.1 x2.2.1 (f2 96 (by first | decide | omega | (dsimp only; omega))) x1.2 (f1 98 (by first | decide | omega | (dsimp only; omega))) x2.2.2) ⟨by omega, by omega⟩ (by omega)
  exact hk M2 hR2 ic2 im2 ⟨by unfold CR at cr ⊢; omega, wr2, gr2⟩
set_option maxHeartbeats 4000000 in
set_option maxRecDepth 100000 in
theorem law_c23 (X : Cx) (b L : Nat) (xs : Nat → Int32) (C N : Nat) (hC : C + 0 ≤ 600000) (hN : N + 0 ≤ 7302249) (i : Int) (M : Mm) (hR : Rg M) (ic : IC M) (im : IM M) (crx : CX M) (h0 : 0 ≤ i) (h1 : i + 7 ≤ L) (hL : L ≤ 3584) (hk : ∀ M' : Mm, Rg M' → IC M' → IM M' → CX M' → J X.1 RL cL_law 4 ret (ELW X M' b L xs) C N Zl 1430 [(3, vi i), (2, vr X 97), (1, vr X 0), (0, .ref b)] []) : J X.1 RL cL_law 4 ret (ELW X M b L xs) C N Zl 918 [(3, vi i), (2, vr X 97), (1, vr X 0), (0, .ref b)] [] := by
  have cr := crx.1
  have wr := crx.2.1
  have gr := crx.2.2
  have bb := ICb ic
  refine j_aload (pc' := 919) 2 dL_law_918 rfl rfl ?_
  refine j_aload (pc' := 920) 3 dL_law_919 rfl rfl ?_
  refine j_iload_n (pc' := 921) 0 dL_law_920 rfl rfl ?_
  refine j_iconst (pc' := 922) dL_law_921 rfl ?_
  refine j_iadd (pc' := 923) dL_law_922 rfl ?_
  refine w_sld (pc' := 924) dL_law_923 rfl (by omega) (by omega) ?_
  refine j_aload (pc' := 925) 3 dL_law_924 rfl rfl ?_
  refine j_iload_n (pc' := 926) 0 dL_law_925 rfl rfl ?_
  refine j_iconst (pc' := 927) dL_law_926 rfl ?_
  refine j_iadd (pc' := 928) dL_law_927 rfl ?_
  refine w_sld (pc' := 929) dL_law_928 rfl (by omega) (by omega) ?_
  refine j_aload (pc' := 930) 3 dL_law_929 rfl rfl ?_
  refine j_iload_n (pc' := 931) 0 dL_law_930 rfl rfl ?_
  refine j_iconst (pc' := 932) dL_law_931 rfl ?_
  refine j_iadd (pc' := 933) dL_law_932 rfl ?_
  refine w_sld (pc' := 934) dL_law_933 rfl (by omega) (by omega) ?_
  refine w_call hC hN hR (pc' := 937) (As := [vi (sx xs (i + 1)), vi (sx xs (i + 2)), vi (sx xs (i + 3))]) (o := 0) (S := []) dL_law_934 rfl m_L_114 w_X9_fits (c_X9_fits X M ic (sx xs (i + 1)) (sx_in xs (i + 1)) (sx xs (i + 2)) (sx_in xs (i + 2)) (sx xs (i + 3)) (sx_in xs (i + 3))) rfl ⟨_, _, _, rfl, rfl, rfl⟩ (Nat.le_of_ble_eq_true rfl) (Nat.le_of_ble_eq_true rfl) rfl (Nat.le_of_ble_eq_true rfl) (fun v M1 hq hR1 => ?_)
  obtain ⟨r1, rfl, ic1, f1, e1_0, e1_1, e1_2, e1_3, e1_4, e1_5, e1_6, e1_7, e1_8, e1_9, e1_10, e1_11, e1_12, e1_13, e1_14, e1_15, e1_16, e1_17, e1_18, p1⟩ := hq
  have im1 : IM M1 := IM.fr im f1 (fun c z => by first | omega | (dsimp only at z; omega))
  have fd1 := frD (Fr.tr Fr.rf f1 fi_90)
  have wr1 : TR M1 := TR.fr wr (f1 32 (by decide)) (f1 106 (by decide)) (by omega) (by omega) (congrFun (f1 97 (by decide)) 17)
  show J X.1 RL cL_law 4 ret (ELW X M1 b L xs) C N Zl 937 [(3, vi i), (2, vr X 97), (1, vr X 0), (0, .ref b)] [vi r1]
  refine j_pop (pc' := 938) dL_law_937 rfl rfl ?_
  refine j_aload (pc' := 939) 1 dL_law_938 rfl rfl ?_
  refine j_aload (pc' := 940) 3 dL_law_939 rfl rfl ?_
  refine j_iload_n (pc' := 941) 0 dL_law_940 rfl rfl ?_
  refine j_iconst (pc' := 942) dL_law_941 rfl ?_
  refine j_iadd (pc' := 943) dL_law_942 rfl ?_
  refine w_sld (pc' := 944) dL_law_943 rfl (by omega) (by omega) ?_
  refine j_aload (pc' := 945) 3 dL_law_944 rfl rfl ?_
  refine j_iload_n (pc' := 946) 0 dL_law_945 rfl rfl ?_
  refine j_iconst (pc' := 947) dL_law_946 rfl ?_
  refine j_iadd (pc' := 948) dL_law_947 rfl ?_
  refine w_sld (pc' := 949) dL_law_948 rfl (by omega) (by omega) ?_
  refine j_aload (pc' := 950) 3 dL_law_949 rfl rfl ?_
  refine j_iload_n (pc' := 951) 0 dL_law_950 rfl rfl ?_
  refine j_iconst (pc' := 952) dL_law_951 rfl ?_
  refine j_iadd (pc' := 953) dL_law_952 rfl ?_
  refine w_sld (pc' := 954) dL_law_953 rfl (by omega) (by omega) ?_
  refine w_call hC hN hR1 (pc' := 957) (As := [vi (sx xs (i + 1)), vi (sx xs (i + 2)), vi (sx xs (i + 3))]) (o := 97) (S := []) dL_law_954 rfl m_L_117 w_X10_fits (c_X10_fits_x X M1 im1 (sx xs (i + 1)) (sx_in xs (i + 1)) (sx xs (i + 2)) (sx_in xs (i + 2)) (sx xs (i + 3)) (sx_in xs (i + 3))) rfl ⟨_, _, _, rfl, rfl, rfl⟩ (Nat.le_of_ble_eq_true rfl) (Nat.le_of_ble_eq_true rfl) rfl (Nat.le_of_ble_eq_true rfl) (fun v M2 hq hR2 => ?_)
  obtain ⟨r2, rfl, im2, f2, e2_0, e2_1, e2_2, e2_3, e2_4, e2_5, e2_6, e2_7, e2_8, e2_9, e2_10, e2_11, e2_12, e2_13, e2_14, e2_15, e2_16, e2_17, e2_18, e2_19, p2⟩ := hq
  have ic2 : IC M2 := IC.fr ic1 f2 (fun c z => by unfold free isT; first | omega | (dsimp only at z; omega))
  have fd2 := frC (Fr.tr Fr.rf f2 fi_91)
  have wr2 : TR M2 := TR.fr wr1 (f2 32 (by decide)) (f2 106 (by decide)) (by omega) (congrFun (f2 0 (by decide)) 12) (by omega)
  show J X.1 RL cL_law 4 ret (ELW X M2 b L xs) C N Zl 957 [(3, vi i), (2, vr X 97), (1, vr X 0), (0, .ref b)] [vi r2]
  refine j_pop (pc' := 958) dL_law_957 rfl rfl ?_
  refine j_goto (tgt := 1430) dL_law_958 rfl ?_
  have F := Fr.tr (P := fun c => (fun c => (60 ≤ c ∧ c ≤ 83)) c ∨ (fun c => c = 97 ∨ c = 101 ∨ c = 104 ∨ c = 105 ∨ c = 113 ∨ c = 114) c) (Fr.tr Fr.rf f1 (fun c z => Or.inl z)) f2 (fun c z => Or.inr z)
  have k0_10 : M2 0 10 = M1 0 10 := congrFun (f2 0 (by first | decide | omega | (dsimp only; omega))) 10
  have k0_11 : M2 0 11 = M1 0 11 := congrFun (f2 0 (by first | decide | omega | (dsimp only; omega))) 11
  have k0_12 : M2 0 12 = M1 0 12 := congrFun (f2 0 (by first | decide | omega | (dsimp only; omega))) 12
  have k0_13 : M2 0 13 = M1 0 13 := congrFun (f2 0 (by first | decide | omega | (dsimp only; omega))) 13
  have k97_1 : M1 97 1 = M 97 1 := congrFun (f1 97 (by first | decide | omega | (dsimp only; omega))) 1
  have k97_10 : M1 97 10 = M 97 10 := congrFun (f1 97 (by first | decide | omega | (dsimp only; omega))) 10
  have k97_17 : M1 97 17 = M 97 17 := congrFun (f1 97 (by first | decide | omega | (dsimp only; omega))) 17
  have k97_33 : M1 97 33 = M 97 33 := congrFun (f1 97 (by first | decide | omega | (dsimp only; omega))) 33
  have k97_44 : M1 97 44 = M 97 44 := congrFun (f1 97 (by first | decide | omega | (dsimp only; omega))) 44
  obtain ⟨g1, g2, g3, g4, rf, ⟨g6a, g6b⟩, g7_⟩ := gr
  have k99_0 : M2 99 0 = M 99 0 := congrFun ((f2 99 (by first | decide | omega | (dsimp only; omega))).trans (f1 99 (by first | decide | omega | (dsimp only; omega)))) 0
  have gr2 : GR M2 := GR.k ⟨g1, g2, g3, g4, rf, ⟨g6a, g6b⟩, g7_⟩ F (fun c z => by unfold inT; first | omega | (dsimp only at z; omega)) (G1.fr g1 F (fun c z => by unfold inT; first | omega | (dsimp only at z; omega)) k99_0 (fun k _ _ => congrFun ((f2 99 (by first | decide | omega | (dsimp only; omega))).trans (f1 99 (by first | decide | omega | (dsimp only; omega)))) k) (by rw [← show M1 101 = M 101 from (f1 101 (by first | decide | omega | (dsimp only; omega)))]; exact p2.2)) (G2.fr g2 ((f2 7 (by first | decide | omega | (dsimp only; omega))).trans (f1 7 (by first | decide | omega | (dsimp only; omega)))) (by omega) (by omega) (fun k _ _ => congrFun ((f2 99 (by first | decide | omega | (dsimp only; omega))).trans (f1 99 (by first | decide | omega | (dsimp only; omega)))) k)) (RFR.fr rf (by omega) (by omega) ((f2 96 (by first | decide | omega | (dsimp only; omega))).trans (f1 96 (by first | decide | omega | (dsimp only; omega)))) ((f2 98 (by first | decide | omega | (dsimp only; omega))).trans (f1 98 (by first | decide | omega | (dsimp only; omega))))) ⟨by omega, by omega⟩ (by omega)
  exact hk M2 hR2 ic2 im2 ⟨by unfold CR at cr ⊢; omega, wr2, gr2⟩
set_option maxHeartbeats 4000000 in
set_option maxRecDepth 100000 in
theorem law_c24 (X : Cx) (b L : Nat) (xs : Nat → Int32) (C N : Nat) (hC : C + 0 ≤ 600000) (hN : N + 0 ≤ 7302249) (i : Int) (M : Mm) (hR : Rg M) (ic : IC M) (im : IM M) (crx : CX M) (h0 : 0 ≤ i) (h1 : i + 7 ≤ L) (hL : L ≤ 3584) (hk : ∀ M' : Mm, Rg M' → IC M' → IM M' → CX M' → J X.1 RL cL_law 4 ret (ELW X M' b L xs) C N Zl 1430 [(3, vi i), (2, vr X 97), (1, vr X 0), (0, .ref b)] []) : J X.1 RL cL_law 4 ret (ELW X M b L xs) C N Zl 961 [(3, vi i), (2, vr X 97), (1, vr X 0), (0, .ref b)] [] := by
  have cr := crx.1
  have wr := crx.2.1
  have gr := crx.2.2
  have bb := ICb ic
  refine j_aload (pc' := 962) 2 dL_law_961 rfl rfl ?_
  refine j_aload (pc' := 963) 3 dL_law_962 rfl rfl ?_
  refine j_iload_n (pc' := 964) 0 dL_law_963 rfl rfl ?_
  refine j_iconst (pc' := 965) dL_law_964 rfl ?_
  refine j_iadd (pc' := 966) dL_law_965 rfl ?_
  refine w_sld (pc' := 967) dL_law_966 rfl (by omega) (by omega) ?_
  refine j_aload (pc' := 968) 3 dL_law_967 rfl rfl ?_
  refine j_iload_n (pc' := 969) 0 dL_law_968 rfl rfl ?_
  refine j_iconst (pc' := 970) dL_law_969 rfl ?_
  refine j_iadd (pc' := 971) dL_law_970 rfl ?_
  refine w_sld (pc' := 972) dL_law_971 rfl (by omega) (by omega) ?_
  refine j_aload (pc' := 973) 3 dL_law_972 rfl rfl ?_
  refine j_iload_n (pc' := 974) 0 dL_law_973 rfl rfl ?_
  refine j_iconst (pc' := 975) dL_law_974 rfl ?_
  refine j_iadd (pc' := 976) dL_law_975 rfl ?_
  refine w_sld (pc' := 977) dL_law_976 rfl (by omega) (by omega) ?_
  refine j_aload (pc' := 978) 3 dL_law_977 rfl rfl ?_
  refine j_iload_n (pc' := 979) 0 dL_law_978 rfl rfl ?_
  refine j_iconst (pc' := 980) dL_law_979 rfl ?_
  refine j_iadd (pc' := 981) dL_law_980 rfl ?_
  refine w_sld (pc' := 982) dL_law_981 rfl (by omega) (by omega) ?_
  refine w_call hC hN hR (pc' := 985) (As := [vi (sx xs (i + 1)), vi (sx xs (i + 2)), vi (sx xs (i + 3)), vi (sx xs (i + 4))]) (o := 0) (S := []) dL_law_982 rfl m_L_118 w_X9_cask (c_X9_cask X M ic (sx xs (i + 1)) (sx_in xs (i + 1)) (sx xs (i + 2)) (sx_in xs (i + 2)) (sx xs (i + 3)) (sx_in xs (i + 3)) (sx xs (i + 4)) (sx_in xs (i + 4))) rfl ⟨_, _, _, rfl, rfl, rfl⟩ (Nat.le_of_ble_eq_true rfl) (Nat.le_of_ble_eq_true rfl) rfl (Nat.le_of_ble_eq_true rfl) (fun v M1 hq hR1 => ?_)
  obtain ⟨r1, rfl, e1, p1⟩ := hq
  rw [e1]
  show J X.1 RL cL_law 4 ret (ELW X M b L xs) C N Zl 985 [(3, vi i), (2, vr X 97), (1, vr X 0), (0, .ref b)] [vl r1]
  refine j_pop2 (pc' := 986) dL_law_985 rfl rfl ?_
  refine j_aload (pc' := 987) 1 dL_law_986 rfl rfl ?_
  refine j_aload (pc' := 988) 3 dL_law_987 rfl rfl ?_
  refine j_iload_n (pc' := 989) 0 dL_law_988 rfl rfl ?_
  refine j_iconst (pc' := 990) dL_law_989 rfl ?_
  refine j_iadd (pc' := 991) dL_law_990 rfl ?_
  refine w_sld (pc' := 992) dL_law_991 rfl (by omega) (by omega) ?_
  refine j_aload (pc' := 993) 3 dL_law_992 rfl rfl ?_
  refine j_iload_n (pc' := 994) 0 dL_law_993 rfl rfl ?_
  refine j_iconst (pc' := 995) dL_law_994 rfl ?_
  refine j_iadd (pc' := 996) dL_law_995 rfl ?_
  refine w_sld (pc' := 997) dL_law_996 rfl (by omega) (by omega) ?_
  refine j_aload (pc' := 998) 3 dL_law_997 rfl rfl ?_
  refine j_iload_n (pc' := 999) 0 dL_law_998 rfl rfl ?_
  refine j_iconst (pc' := 1000) dL_law_999 rfl ?_
  refine j_iadd (pc' := 1001) dL_law_1000 rfl ?_
  refine w_sld (pc' := 1002) dL_law_1001 rfl (by omega) (by omega) ?_
  refine j_aload (pc' := 1003) 3 dL_law_1002 rfl rfl ?_
  refine j_iload_n (pc' := 1004) 0 dL_law_1003 rfl rfl ?_
  refine j_iconst (pc' := 1005) dL_law_1004 rfl ?_
  refine j_iadd (pc' := 1006) dL_law_1005 rfl ?_
  refine w_sld (pc' := 1007) dL_law_1006 rfl (by omega) (by omega) ?_
  refine w_call hC hN hR (pc' := 1010) (As := [vi (sx xs (i + 1)), vi (sx xs (i + 2)), vi (sx xs (i + 3)), vi (sx xs (i + 4))]) (o := 97) (S := []) dL_law_1007 rfl m_L_121 w_X10_cask (c_X10_cask X M im (sx xs (i + 1)) (sx_in xs (i + 1)) (sx xs (i + 2)) (sx_in xs (i + 2)) (sx xs (i + 3)) (sx_in xs (i + 3)) (sx xs (i + 4)) (sx_in xs (i + 4))) rfl ⟨_, _, _, rfl, rfl, rfl⟩ (Nat.le_of_ble_eq_true rfl) (Nat.le_of_ble_eq_true rfl) rfl (Nat.le_of_ble_eq_true rfl) (fun v M2 hq hR2 => ?_)
  obtain ⟨r2, rfl, im2, f2, e2_0, e2_1, e2_2, e2_3, e2_4, e2_5, e2_6, e2_7, e2_8, e2_9, e2_10, e2_11, e2_12, e2_13, e2_14, e2_15, e2_16, e2_17, e2_18, e2_19, p2⟩ := hq
  have ic2 : IC M2 := IC.fr ic f2 (fun c z => by unfold free isT; first | omega | (dsimp only at z; omega))
  have fd2 := frC (Fr.tr Fr.rf f2 fi_78)
  have wr2 : TR M2 := TR.fr wr (f2 32 (by decide)) (f2 106 (by decide)) (by omega) (congrFun (f2 0 (by decide)) 12) (by omega)
  show J X.1 RL cL_law 4 ret (ELW X M2 b L xs) C N Zl 1010 [(3, vi i), (2, vr X 97), (1, vr X 0), (0, .ref b)] [vl r2]
  refine j_pop2 (pc' := 1011) dL_law_1010 rfl rfl ?_
  refine j_goto (tgt := 1430) dL_law_1011 rfl ?_
  have F := f2
  have k0_10 : M2 0 10 = M 0 10 := congrFun (f2 0 (by first | decide | omega | (dsimp only; omega))) 10
  have k0_11 : M2 0 11 = M 0 11 := congrFun (f2 0 (by first | decide | omega | (dsimp only; omega))) 11
  have k0_12 : M2 0 12 = M 0 12 := congrFun (f2 0 (by first | decide | omega | (dsimp only; omega))) 12
  have k0_13 : M2 0 13 = M 0 13 := congrFun (f2 0 (by first | decide | omega | (dsimp only; omega))) 13
  obtain ⟨g1, g2, g3, g4, rf, ⟨g6a, g6b⟩, g7_⟩ := gr
  have k99_0 : M2 99 0 = M 99 0 := congrFun (f2 99 (by first | decide | omega | (dsimp only; omega))) 0
  have gr2 : GR M2 := GR.k ⟨g1, g2, g3, g4, rf, ⟨g6a, g6b⟩, g7_⟩ F (fun c z => by unfold inT; first | omega | (dsimp only at z; omega)) (G1.fr g1 F (fun c z => by unfold inT; first | omega | (dsimp only at z; omega)) k99_0 (fun k _ _ => congrFun (f2 99 (by first | decide | omega | (dsimp only; omega))) k) (fun j _ => congrFun (f2 101 (by first | decide | omega | (dsimp only; omega))) j)) (G2.fr g2 (f2 7 (by first | decide | omega | (dsimp only; omega))) (by omega) (by omega) (fun k _ _ => congrFun (f2 99 (by first | decide | omega | (dsimp only; omega))) k)) (RFR.fr rf (by omega) (by omega) (f2 96 (by first | decide | omega | (dsimp only; omega))) (f2 98 (by first | decide | omega | (dsimp only; omega)))) ⟨by omega, by omega⟩ (by omega)
  exact hk M2 hR2 ic2 im2 ⟨by unfold CR at cr ⊢; omega, wr2, gr2⟩
set_option maxHeartbeats 4000000 in
set_option maxRecDepth 100000 in
theorem law_c25 (X : Cx) (b L : Nat) (xs : Nat → Int32) (C N : Nat) (hC : C + 0 ≤ 600000) (hN : N + 0 ≤ 7302249) (i : Int) (M : Mm) (hR : Rg M) (ic : IC M) (im : IM M) (crx : CX M) (h0 : 0 ≤ i) (h1 : i + 7 ≤ L) (hL : L ≤ 3584) (hk : ∀ M' : Mm, Rg M' → IC M' → IM M' → CX M' → J X.1 RL cL_law 4 ret (ELW X M' b L xs) C N Zl 1430 [(3, vi i), (2, vr X 97), (1, vr X 0), (0, .ref b)] []) : J X.1 RL cL_law 4 ret (ELW X M b L xs) C N Zl 1014 [(3, vi i), (2, vr X 97), (1, vr X 0), (0, .ref b)] [] := by
  have cr := crx.1
  have wr := crx.2.1
  have gr := crx.2.2
  have bb := ICb ic
  refine j_aload (pc' := 1015) 2 dL_law_1014 rfl rfl ?_
  refine j_aload (pc' := 1016) 3 dL_law_1015 rfl rfl ?_
  refine j_iload_n (pc' := 1017) 0 dL_law_1016 rfl rfl ?_
  refine j_iconst (pc' := 1018) dL_law_1017 rfl ?_
  refine j_iadd (pc' := 1019) dL_law_1018 rfl ?_
  refine w_sld (pc' := 1020) dL_law_1019 rfl (by omega) (by omega) ?_
  refine j_aload (pc' := 1021) 3 dL_law_1020 rfl rfl ?_
  refine j_iload_n (pc' := 1022) 0 dL_law_1021 rfl rfl ?_
  refine j_iconst (pc' := 1023) dL_law_1022 rfl ?_
  refine j_iadd (pc' := 1024) dL_law_1023 rfl ?_
  refine w_sld (pc' := 1025) dL_law_1024 rfl (by omega) (by omega) ?_
  refine j_aload (pc' := 1026) 3 dL_law_1025 rfl rfl ?_
  refine j_iload_n (pc' := 1027) 0 dL_law_1026 rfl rfl ?_
  refine j_iconst (pc' := 1028) dL_law_1027 rfl ?_
  refine j_iadd (pc' := 1029) dL_law_1028 rfl ?_
  refine w_sld (pc' := 1030) dL_law_1029 rfl (by omega) (by omega) ?_
  refine w_call hC hN hR (pc' := 1033) (As := [vi (sx xs (i + 1)), vi (sx xs (i + 2)), vi (sx xs (i + 3))]) (o := 0) (S := []) dL_law_1030 rfl m_L_122 w_X9_guests (c_X9_guests X M ic (sx xs (i + 1)) (sx_in xs (i + 1)) (sx xs (i + 2)) (sx_in xs (i + 2)) (sx xs (i + 3)) (sx_in xs (i + 3))) rfl ⟨_, _, _, rfl, rfl, rfl⟩ (Nat.le_of_ble_eq_true rfl) (Nat.le_of_ble_eq_true rfl) rfl (Nat.le_of_ble_eq_true rfl) (fun v M1 hq hR1 => ?_)
  obtain ⟨r1, rfl, e1, p1⟩ := hq
  rw [e1]
  show J X.1 RL cL_law 4 ret (ELW X M b L xs) C N Zl 1033 [(3, vi i), (2, vr X 97), (1, vr X 0), (0, .ref b)] [vi r1]
  refine j_pop (pc' := 1034) dL_law_1033 rfl rfl ?_
  refine j_aload (pc' := 1035) 1 dL_law_1034 rfl rfl ?_
  refine j_aload (pc' := 1036) 3 dL_law_1035 rfl rfl ?_
  refine j_iload_n (pc' := 1037) 0 dL_law_1036 rfl rfl ?_
  refine j_iconst (pc' := 1038) dL_law_1037 rfl ?_
  refine j_iadd (pc' := 1039) dL_law_1038 rfl ?_
  refine w_sld (pc' := 1040) dL_law_1039 rfl (by omega) (by omega) ?_
  refine j_aload (pc' := 1041) 3 dL_law_1040 rfl rfl ?_
  refine j_iload_n (pc' := 1042) 0 dL_law_1041 rfl rfl ?_
  refine j_iconst (pc' := 1043) dL_law_1042 rfl ?_
  refine j_iadd (pc' := 1044) dL_law_1043 rfl ?_
  refine w_sld (pc' := 1045) dL_law_1044 rfl (by omega) (by omega) ?_
  refine j_aload (pc' := 1046) 3 dL_law_1045 rfl rfl ?_
  refine j_iload_n (pc' := 1047) 0 dL_law_1046 rfl rfl ?_
  refine j_iconst (pc' := 1048) dL_law_1047 rfl ?_
  refine j_iadd (pc' := 1049) dL_law_1048 rfl ?_
  refine w_sld (pc' := 1050) dL_law_1049 rfl (by omega) (by omega) ?_
  refine w_call hC hN hR (pc' := 1053) (As := [vi (sx xs (i + 1)), vi (sx xs (i + 2)), vi (sx xs (i + 3))]) (o := 97) (S := []) dL_law_1050 rfl m_L_125 w_X10_guests (c_X10_guests X M im (sx xs (i + 1)) (sx_in xs (i + 1)) (sx xs (i + 2)) (sx_in xs (i + 2)) (sx xs (i + 3)) (sx_in xs (i + 3))) rfl ⟨_, _, _, rfl, rfl, rfl⟩ (Nat.le_of_ble_eq_true rfl) (Nat.le_of_ble_eq_true rfl) rfl (Nat.le_of_ble_eq_true rfl) (fun v M2 hq hR2 => ?_)
  obtain ⟨r2, rfl, im2, f2, e2_0, e2_1, e2_2, e2_3, e2_4, e2_5, e2_6, e2_7, e2_8, e2_9, e2_10, e2_11, e2_12, e2_13, e2_14, e2_15, e2_16, e2_17, e2_18, e2_19, p2⟩ := hq
  have ic2 : IC M2 := IC.fr ic f2 (fun c z => by unfold free isT; first | omega | (dsimp only at z; omega))
  have fd2 := frC (Fr.tr Fr.rf f2 fi_78)
  have wr2 : TR M2 := TR.fr wr (f2 32 (by decide)) (f2 106 (by decide)) (by omega) (congrFun (f2 0 (by decide)) 12) (by omega)
  show J X.1 RL cL_law 4 ret (ELW X M2 b L xs) C N Zl 1053 [(3, vi i), (2, vr X 97), (1, vr X 0), (0, .ref b)] [vi r2]
  refine j_pop (pc' := 1054) dL_law_1053 rfl rfl ?_
  refine j_goto (tgt := 1430) dL_law_1054 rfl ?_
  have F := f2
  have k0_10 : M2 0 10 = M 0 10 := congrFun (f2 0 (by first | decide | omega | (dsimp only; omega))) 10
  have k0_11 : M2 0 11 = M 0 11 := congrFun (f2 0 (by first | decide | omega | (dsimp only; omega))) 11
  have k0_12 : M2 0 12 = M 0 12 := congrFun (f2 0 (by first | decide | omega | (dsimp only; omega))) 12
  have k0_13 : M2 0 13 = M 0 13 := congrFun (f2 0 (by first | decide | omega | (dsimp only; omega))) 13
  obtain ⟨g1, g2, g3, g4, rf, ⟨g6a, g6b⟩, g7_⟩ := gr
  have k99_0 : M2 99 0 = M 99 0 := congrFun (f2 99 (by first | decide | omega | (dsimp only; omega))) 0
  have gr2 : GR M2 := GR.k ⟨g1, g2, g3, g4, rf, ⟨g6a, g6b⟩, g7_⟩ F (fun c z => by unfold inT; first | omega | (dsimp only at z; omega)) (G1.fr g1 F (fun c z => by unfold inT; first | omega | (dsimp only at z; omega)) k99_0 (fun k _ _ => congrFun (f2 99 (by first | decide | omega | (dsimp only; omega))) k) (fun j _ => congrFun (f2 101 (by first | decide | omega | (dsimp only; omega))) j)) (G2.fr g2 (f2 7 (by first | decide | omega | (dsimp only; omega))) (by omega) (by omega) (fun k _ _ => congrFun (f2 99 (by first | decide | omega | (dsimp only; omega))) k)) (RFR.fr rf (by omega) (by omega) (f2 96 (by first | decide | omega | (dsimp only; omega))) (f2 98 (by first | decide | omega | (dsimp only; omega)))) ⟨by omega, by omega⟩ (by omega)
  exact hk M2 hR2 ic2 im2 ⟨by unfold CR at cr ⊢; omega, wr2, gr2⟩
set_option maxHeartbeats 4000000 in
set_option maxRecDepth 100000 in
theorem law_c26 (X : Cx) (b L : Nat) (xs : Nat → Int32) (C N : Nat) (hC : C + 0 ≤ 600000) (hN : N + 0 ≤ 7302249) (i : Int) (M : Mm) (hR : Rg M) (ic : IC M) (im : IM M) (crx : CX M) (h0 : 0 ≤ i) (h1 : i + 7 ≤ L) (hL : L ≤ 3584) (hk : ∀ M' : Mm, Rg M' → IC M' → IM M' → CX M' → J X.1 RL cL_law 4 ret (ELW X M' b L xs) C N Zl 1430 [(3, vi i), (2, vr X 97), (1, vr X 0), (0, .ref b)] []) : J X.1 RL cL_law 4 ret (ELW X M b L xs) C N Zl 1057 [(3, vi i), (2, vr X 97), (1, vr X 0), (0, .ref b)] [] := by
  have cr := crx.1
  have wr := crx.2.1
  have gr := crx.2.2
  have bb := ICb ic
  refine j_aload (pc' := 1058) 2 dL_law_1057 rfl rfl ?_
  refine j_aload (pc' := 1059) 3 dL_law_1058 rfl rfl ?_
  refine j_iload_n (pc' := 1060) 0 dL_law_1059 rfl rfl ?_
  refine j_iconst (pc' := 1061) dL_law_1060 rfl ?_
  refine j_iadd (pc' := 1062) dL_law_1061 rfl ?_
  refine w_sld (pc' := 1063) dL_law_1062 rfl (by omega) (by omega) ?_
  refine j_aload (pc' := 1064) 3 dL_law_1063 rfl rfl ?_
  refine j_iload_n (pc' := 1065) 0 dL_law_1064 rfl rfl ?_
  refine j_iconst (pc' := 1066) dL_law_1065 rfl ?_
  refine j_iadd (pc' := 1067) dL_law_1066 rfl ?_
  refine w_sld (pc' := 1068) dL_law_1067 rfl (by omega) (by omega) ?_
  refine j_aload (pc' := 1069) 3 dL_law_1068 rfl rfl ?_
  refine j_iload_n (pc' := 1070) 0 dL_law_1069 rfl rfl ?_
  refine j_iconst (pc' := 1071) dL_law_1070 rfl ?_
  refine j_iadd (pc' := 1072) dL_law_1071 rfl ?_
  refine w_sld (pc' := 1073) dL_law_1072 rfl (by omega) (by omega) ?_
  refine j_aload (pc' := 1074) 3 dL_law_1073 rfl rfl ?_
  refine j_iload_n (pc' := 1075) 0 dL_law_1074 rfl rfl ?_
  refine j_iconst (pc' := 1076) dL_law_1075 rfl ?_
  refine j_iadd (pc' := 1077) dL_law_1076 rfl ?_
  refine w_sld (pc' := 1078) dL_law_1077 rfl (by omega) (by omega) ?_
  refine w_call hC hN hR (pc' := 1081) (As := [vi (sx xs (i + 1)), vi (sx xs (i + 2)), vi (sx xs (i + 3)), vi (sx xs (i + 4))]) (o := 0) (S := []) dL_law_1078 rfl m_L_126 w_X9_rinse (c_X9_rinse X M ic (sx xs (i + 1)) (sx_in xs (i + 1)) (sx xs (i + 2)) (sx_in xs (i + 2)) (sx xs (i + 3)) (sx_in xs (i + 3)) (sx xs (i + 4)) (sx_in xs (i + 4))) rfl ⟨_, _, _, rfl, rfl, rfl⟩ (Nat.le_of_ble_eq_true rfl) (Nat.le_of_ble_eq_true rfl) rfl (Nat.le_of_ble_eq_true rfl) (fun v M1 hq hR1 => ?_)
  obtain ⟨r1, rfl, e1, p1⟩ := hq
  rw [e1]
  show J X.1 RL cL_law 4 ret (ELW X M b L xs) C N Zl 1081 [(3, vi i), (2, vr X 97), (1, vr X 0), (0, .ref b)] [vl r1]
  refine j_pop2 (pc' := 1082) dL_law_1081 rfl rfl ?_
  refine j_aload (pc' := 1083) 1 dL_law_1082 rfl rfl ?_
  refine j_aload (pc' := 1084) 3 dL_law_1083 rfl rfl ?_
  refine j_iload_n (pc' := 1085) 0 dL_law_1084 rfl rfl ?_
  refine j_iconst (pc' := 1086) dL_law_1085 rfl ?_
  refine j_iadd (pc' := 1087) dL_law_1086 rfl ?_
  refine w_sld (pc' := 1088) dL_law_1087 rfl (by omega) (by omega) ?_
  refine j_aload (pc' := 1089) 3 dL_law_1088 rfl rfl ?_
  refine j_iload_n (pc' := 1090) 0 dL_law_1089 rfl rfl ?_
  refine j_iconst (pc' := 1091) dL_law_1090 rfl ?_
  refine j_iadd (pc' := 1092) dL_law_1091 rfl ?_
  refine w_sld (pc' := 1093) dL_law_1092 rfl (by omega) (by omega) ?_
  refine j_aload (pc' := 1094) 3 dL_law_1093 rfl rfl ?_
  refine j_iload_n (pc' := 1095) 0 dL_law_1094 rfl rfl ?_
  refine j_iconst (pc' := 1096) dL_law_1095 rfl ?_
  refine j_iadd (pc' := 1097) dL_law_1096 rfl ?_
  refine w_sld (pc' := 1098) dL_law_1097 rfl (by omega) (by omega) ?_
  refine j_aload (pc' := 1099) 3 dL_law_1098 rfl rfl ?_
  refine j_iload_n (pc' := 1100) 0 dL_law_1099 rfl rfl ?_
  refine j_iconst (pc' := 1101) dL_law_1100 rfl ?_
  refine j_iadd (pc' := 1102) dL_law_1101 rfl ?_
  refine w_sld (pc' := 1103) dL_law_1102 rfl (by omega) (by omega) ?_
  refine w_call hC hN hR (pc' := 1106) (As := [vi (sx xs (i + 1)), vi (sx xs (i + 2)), vi (sx xs (i + 3)), vi (sx xs (i + 4))]) (o := 97) (S := []) dL_law_1103 rfl m_L_129 w_X10_rinse (c_X10_rinse X M im (sx xs (i + 1)) (sx_in xs (i + 1)) (sx xs (i + 2)) (sx_in xs (i + 2)) (sx xs (i + 3)) (sx_in xs (i + 3)) (sx xs (i + 4)) (sx_in xs (i + 4))) rfl ⟨_, _, _, rfl, rfl, rfl⟩ (Nat.le_of_ble_eq_true rfl) (Nat.le_of_ble_eq_true rfl) rfl (Nat.le_of_ble_eq_true rfl) (fun v M2 hq hR2 => ?_)
  obtain ⟨r2, rfl, im2, f2, e2_0, e2_1, e2_2, e2_3, e2_4, e2_5, e2_6, e2_7, e2_8, e2_9, e2_10, e2_11, e2_12, e2_13, e2_14, e2_15, e2_16, e2_17, e2_18, e2_19, p2⟩ := hq
  have ic2 : IC M2 := IC.fr ic f2 (fun c z => by unfold free isT; first | omega | (dsimp only at z; omega))
  have fd2 := frC (Fr.tr Fr.rf f2 fi_78)
  have wr2 : TR M2 := TR.fr wr (f2 32 (by decide)) (f2 106 (by decide)) (by omega) (congrFun (f2 0 (by decide)) 12) (by omega)
  show J X.1 RL cL_law 4 ret (ELW X M2 b L xs) C N Zl 1106 [(3, vi i), (2, vr X 97), (1, vr X 0), (0, .ref b)] [vl r2]
  refine j_pop2 (pc' := 1107) dL_law_1106 rfl rfl ?_
  refine j_goto (tgt := 1430) dL_law_1107 rfl ?_
  have F := f2
  have k0_10 : M2 0 10 = M 0 10 := congrFun (f2 0 (by first | decide | omega | (dsimp only; omega))) 10
  have k0_11 : M2 0 11 = M 0 11 := congrFun (f2 0 (by first | decide | omega | (dsimp only; omega))) 11
  have k0_12 : M2 0 12 = M 0 12 := congrFun (f2 0 (by first | decide | omega | (dsimp only; omega))) 12
  have k0_13 : M2 0 13 = M 0 13 := congrFun (f2 0 (by first | decide | omega | (dsimp only; omega))) 13
  obtain ⟨g1, g2, g3, g4, rf, ⟨g6a, g6b⟩, g7_⟩ := gr
  have k99_0 : M2 99 0 = M 99 0 := congrFun (f2 99 (by first | decide | omega | (dsimp only; omega))) 0
  have gr2 : GR M2 := GR.k ⟨g1, g2, g3, g4, rf, ⟨g6a, g6b⟩, g7_⟩ F (fun c z => by unfold inT; first | omega | (dsimp only at z; omega)) (G1.fr g1 F (fun c z => by unfold inT; first | omega | (dsimp only at z; omega)) k99_0 (fun k _ _ => congrFun (f2 99 (by first | decide | omega | (dsimp only; omega))) k) (fun j _ => congrFun (f2 101 (by first | decide | omega | (dsimp only; omega))) j)) (G2.fr g2 (f2 7 (by first | decide | omega | (dsimp only; omega))) (by omega) (by omega) (fun k _ _ => congrFun (f2 99 (by first | decide | omega | (dsimp only; omega))) k)) (RFR.fr rf (by omega) (by omega) (f2 96 (by first | decide | omega | (dsimp only; omega))) (f2 98 (by first | decide | omega | (dsimp only; omega)))) ⟨by omega, by omega⟩ (by omega)
  exact hk M2 hR2 ic2 im2 ⟨by unfold CR at cr ⊢; omega, wr2, gr2⟩
set_option maxHeartbeats 4000000 in
set_option maxRecDepth 100000 in
theorem law_c27 (X : Cx) (b L : Nat) (xs : Nat → Int32) (C N : Nat) (hC : C + 0 ≤ 600000) (hN : N + 0 ≤ 7302249) (i : Int) (M : Mm) (hR : Rg M) (ic : IC M) (im : IM M) (crx : CX M) (h0 : 0 ≤ i) (h1 : i + 7 ≤ L) (hL : L ≤ 3584) (hk : ∀ M' : Mm, Rg M' → IC M' → IM M' → CX M' → J X.1 RL cL_law 4 ret (ELW X M' b L xs) C N Zl 1430 [(3, vi i), (2, vr X 97), (1, vr X 0), (0, .ref b)] []) : J X.1 RL cL_law 4 ret (ELW X M b L xs) C N Zl 1110 [(3, vi i), (2, vr X 97), (1, vr X 0), (0, .ref b)] [] := by
  have cr := crx.1
  have wr := crx.2.1
  have gr := crx.2.2
  have bb := ICb ic
  refine j_aload (pc' := 1111) 2 dL_law_1110 rfl rfl ?_
  refine j_aload (pc' := 1112) 3 dL_law_1111 rfl rfl ?_
  refine j_iload_n (pc' := 1113) 0 dL_law_1112 rfl rfl ?_
  refine j_iconst (pc' := 1114) dL_law_1113 rfl ?_
  refine j_iadd (pc' := 1115) dL_law_1114 rfl ?_
  refine w_sld (pc' := 1116) dL_law_1115 rfl (by omega) (by omega) ?_
  refine j_aload (pc' := 1117) 3 dL_law_1116 rfl rfl ?_
  refine j_iload_n (pc' := 1118) 0 dL_law_1117 rfl rfl ?_
  refine j_iconst (pc' := 1119) dL_law_1118 rfl ?_
  refine j_iadd (pc' := 1120) dL_law_1119 rfl ?_
  refine w_sld (pc' := 1121) dL_law_1120 rfl (by omega) (by omega) ?_
  refine j_aload (pc' := 1122) 3 dL_law_1121 rfl rfl ?_
  refine j_iload_n (pc' := 1123) 0 dL_law_1122 rfl rfl ?_
  refine j_iconst (pc' := 1124) dL_law_1123 rfl ?_
  refine j_iadd (pc' := 1125) dL_law_1124 rfl ?_
  refine w_sld (pc' := 1126) dL_law_1125 rfl (by omega) (by omega) ?_
  refine w_call hC hN hR (pc' := 1129) (As := [vi (sx xs (i + 1)), vi (sx xs (i + 2)), vi (sx xs (i + 3))]) (o := 0) (S := []) dL_law_1126 rfl m_L_130 w_X9_wine (c_X9_wine_x X M ic (sx xs (i + 1)) (sx_in xs (i + 1)) (sx xs (i + 2)) (sx_in xs (i + 2)) (sx xs (i + 3)) (sx_in xs (i + 3))) rfl ⟨_, _, _, rfl, rfl, rfl⟩ (Nat.le_of_ble_eq_true rfl) (Nat.le_of_ble_eq_true rfl) rfl (Nat.le_of_ble_eq_true rfl) (fun v M1 hq hR1 => ?_)
  obtain ⟨r1, rfl, ic1, f1, e1_0, e1_1, e1_2, e1_3, e1_4, e1_5, e1_6, e1_7, e1_8, e1_9, e1_10, e1_11, e1_12, e1_13, e1_14, e1_15, e1_16, p1⟩ := hq
  have im1 : IM M1 := IM.fr im f1 (fun c z => by first | omega | (dsimp only at z; omega))
  have fd1 := frD (Fr.tr Fr.rf f1 fi_93)
  have x1 := p1.2
  replace p1 := p1.1
  have wr1 : TR M1 := TR.fr wr (f1 32 (by decide)) (f1 106 (by decide)) (by omega) (by omega) (congrFun (f1 97 (by decide)) 17)
  show J X.1 RL cL_law 4 ret (ELW X M1 b L xs) C N Zl 1129 [(3, vi i), (2, vr X 97), (1, vr X 0), (0, .ref b)] [vi r1]
  refine j_pop (pc' := 1130) dL_law_1129 rfl rfl ?_
  refine j_aload (pc' := 1131) 1 dL_law_1130 rfl rfl ?_
  refine j_aload (pc' := 1132) 3 dL_law_1131 rfl rfl ?_
  refine j_iload_n (pc' := 1133) 0 dL_law_1132 rfl rfl ?_
  refine j_iconst (pc' := 1134) dL_law_1133 rfl ?_
  refine j_iadd (pc' := 1135) dL_law_1134 rfl ?_
  refine w_sld (pc' := 1136) dL_law_1135 rfl (by omega) (by omega) ?_
  refine j_aload (pc' := 1137) 3 dL_law_1136 rfl rfl ?_
  refine j_iload_n (pc' := 1138) 0 dL_law_1137 rfl rfl ?_
  refine j_iconst (pc' := 1139) dL_law_1138 rfl ?_
  refine j_iadd (pc' := 1140) dL_law_1139 rfl ?_
  refine w_sld (pc' := 1141) dL_law_1140 rfl (by omega) (by omega) ?_
  refine j_aload (pc' := 1142) 3 dL_law_1141 rfl rfl ?_
  refine j_iload_n (pc' := 1143) 0 dL_law_1142 rfl rfl ?_
  refine j_iconst (pc' := 1144) dL_law_1143 rfl ?_
  refine j_iadd (pc' := 1145) dL_law_1144 rfl ?_
  refine w_sld (pc' := 1146) dL_law_1145 rfl (by omega) (by omega) ?_
  refine w_call hC hN hR1 (pc' := 1149) (As := [vi (sx xs (i + 1)), vi (sx xs (i + 2)), vi (sx xs (i + 3))]) (o := 97) (S := []) dL_law_1146 rfl m_L_133 w_X10_wine (c_X10_wine_x X M1 im1 (sx xs (i + 1)) (sx_in xs (i + 1)) (sx xs (i + 2)) (sx_in xs (i + 2)) (sx xs (i + 3)) (sx_in xs (i + 3))) rfl ⟨_, _, _, rfl, rfl, rfl⟩ (Nat.le_of_ble_eq_true rfl) (Nat.le_of_ble_eq_true rfl) rfl (Nat.le_of_ble_eq_true rfl) (fun v M2 hq hR2 => ?_)
  obtain ⟨r2, rfl, im2, f2, e2_0, e2_1, e2_2, e2_3, e2_4, e2_5, e2_6, e2_7, e2_8, e2_9, e2_10, e2_11, e2_12, e2_13, e2_14, e2_15, e2_16, e2_17, p2⟩ := hq
  have ic2 : IC M2 := IC.fr ic1 f2 (fun c z => by unfold free isT; first | omega | (dsimp only at z; omega))
  have fd2 := frC (Fr.tr Fr.rf f2 fi_77)
  have x2 := p2.2
  replace p2 := p2.1
  have wr2 : TR M2 := TR.fr wr1 (f2 32 (by decide)) (f2 106 (by decide)) (by omega) (congrFun (f2 0 (by decide)) 12) (by omega)
  show J X.1 RL cL_law 4 ret (ELW X M2 b L xs) C N Zl 1149 [(3, vi i), (2, vr X 97), (1, vr X 0), (0, .ref b)] [vi r2]
  refine j_pop (pc' := 1150) dL_law_1149 rfl rfl ?_
  refine j_goto (tgt := 1430) dL_law_1150 rfl ?_
  have ha_ : -6 ≤ r2 := by unfold CR at cr; clear p1; omega
  have dt := det_wine p1 p2 (by unfold CR at cr; omega)
  clear p1 p2
  have F := Fr.tr (P := fun c => (fun c => c = 1 ∨ c = 9 ∨ c = 0 ∨ c = 96) c ∨ (fun c => c = 97 ∨ c = 98 ∨ c = 99) c) (Fr.tr Fr.rf f1 (fun c z => Or.inl z)) f2 (fun c z => Or.inr z)
  have k0_10 : M2 0 10 = M1 0 10 := congrFun (f2 0 (by first | decide | omega | (dsimp only; omega))) 10
  have k0_11 : M2 0 11 = M1 0 11 := congrFun (f2 0 (by first | decide | omega | (dsimp only; omega))) 11
  have k0_12 : M2 0 12 = M1 0 12 := congrFun (f2 0 (by first | decide | omega | (dsimp only; omega))) 12
  have k0_13 : M2 0 13 = M1 0 13 := congrFun (f2 0 (by first | decide | omega | (dsimp only; omega))) 13
  have k97_1 : M1 97 1 = M 97 1 := congrFun (f1 97 (by first | decide | omega | (dsimp only; omega))) 1
  have k97_10 : M1 97 10 = M 97 10 := congrFun (f1 97 (by first | decide | omega | (dsimp only; omega))) 10
  have k97_17 : M1 97 17 = M 97 17 := congrFun (f1 97 (by first | decide | omega | (dsimp only; omega))) 17
  have k97_33 : M1 97 33 = M 97 33 := congrFun (f1 97 (by first | decide | omega | (dsimp only; omega))) 33
  have k97_44 : M1 97 44 = M 97 44 := congrFun (f1 97 (by first | decide | omega | (dsimp only; omega))) 44
  obtain ⟨g1, g2, g3, g4, rf, ⟨g6a, g6b⟩, g7_⟩ := gr
  have k99_0 : M2 99 0 = M 99 0 := by omega
  have hrr : r1 = r2 := dt.1
  have gr2 : GR M2 := GR.k ⟨g1, g2, g3, g4, rf, ⟨g6a, g6b⟩, g7_⟩ F (fun c z => by unfold inT; first | omega | (dsimp only at z; omega)) (G1.fr g1 F (fun c z => by unfold inT; first | omega | (dsimp only at z; omega)) k99_0 (fun k h1 h2 => (x2.1 k h1 (by omega)).trans (congrFun (f1 99 (by first | decide | omega | (dsimp only; omega))) k)) (fun j _ => congrFun ((f2 101 (by first | decide | omega | (dsimp only; omega))).trans (f1 101 (by first | decide | omega | (dsimp only; omega)))) j)) (G2.fr g2 ((f2 7 (by first | decide | omega | (dsimp only; omega))).trans (f1 7 (by first | decide | omega | (dsimp only; omega)))) (by omega) (by omega) (fun k h1 h2 => (x2.1 k h1 (by omega)).trans (congrFun (f1 99 (by first | decide | omega | (dsimp only; omega))) k))) (RFR.s2 rf ha_ hrr k0_10 x1.1 x2.2.1 (f2 96 (by first | decide | omega | (dsimp only; omega))) x1.2 (f1 98 (by first | decide | omega | (dsimp only; omega))) x2.2.2) ⟨by omega, by omega⟩ (by omega)
  exact hk M2 hR2 ic2 im2 ⟨by unfold CR at cr ⊢; omega, wr2, gr2⟩
set_option maxHeartbeats 4000000 in
set_option maxRecDepth 100000 in
theorem law_c28 (X : Cx) (b L : Nat) (xs : Nat → Int32) (C N : Nat) (hC : C + 0 ≤ 600000) (hN : N + 0 ≤ 7302249) (i : Int) (M : Mm) (hR : Rg M) (ic : IC M) (im : IM M) (crx : CX M) (h0 : 0 ≤ i) (h1 : i + 7 ≤ L) (hL : L ≤ 3584) (hk : ∀ M' : Mm, Rg M' → IC M' → IM M' → CX M' → J X.1 RL cL_law 4 ret (ELW X M' b L xs) C N Zl 1430 [(3, vi i), (2, vr X 97), (1, vr X 0), (0, .ref b)] []) : J X.1 RL cL_law 4 ret (ELW X M b L xs) C N Zl 1153 [(3, vi i), (2, vr X 97), (1, vr X 0), (0, .ref b)] [] := by
  have cr := crx.1
  have wr := crx.2.1
  have gr := crx.2.2
  have bb := ICb ic
  refine j_aload (pc' := 1154) 2 dL_law_1153 rfl rfl ?_
  refine j_aload (pc' := 1155) 3 dL_law_1154 rfl rfl ?_
  refine j_iload_n (pc' := 1156) 0 dL_law_1155 rfl rfl ?_
  refine j_iconst (pc' := 1157) dL_law_1156 rfl ?_
  refine j_iadd (pc' := 1158) dL_law_1157 rfl ?_
  refine w_sld (pc' := 1159) dL_law_1158 rfl (by omega) (by omega) ?_
  refine w_call hC hN hR (pc' := 1162) (As := [vi (sx xs (i + 1))]) (o := 0) (S := []) dL_law_1159 rfl m_L_134 w_X9_drink (c_X9_drink_x X M ic (sx xs (i + 1)) (sx_in xs (i + 1))) rfl ⟨_, _, _, rfl, rfl, rfl⟩ (Nat.le_of_ble_eq_true rfl) (Nat.le_of_ble_eq_true rfl) rfl (Nat.le_of_ble_eq_true rfl) (fun v M1 hq hR1 => ?_)
  obtain ⟨r1, rfl, ic1, f1, e1_0, e1_1, e1_2, e1_3, e1_4, e1_5, e1_6, e1_7, e1_8, e1_9, e1_10, e1_11, e1_12, e1_13, e1_14, e1_15, e1_16, p1⟩ := hq
  have im1 : IM M1 := IM.fr im f1 (fun c z => by first | omega | (dsimp only at z; omega))
  have fd1 := frD (Fr.tr Fr.rf f1 fi_93)
  have x1 := p1.2
  replace p1 := p1.1
  have wr1 : TR M1 := TR.fr wr (f1 32 (by decide)) (f1 106 (by decide)) (by omega) (by omega) (congrFun (f1 97 (by decide)) 17)
  show J X.1 RL cL_law 4 ret (ELW X M1 b L xs) C N Zl 1162 [(3, vi i), (2, vr X 97), (1, vr X 0), (0, .ref b)] [vi r1]
  refine j_pop (pc' := 1163) dL_law_1162 rfl rfl ?_
  refine j_aload (pc' := 1164) 1 dL_law_1163 rfl rfl ?_
  refine j_aload (pc' := 1165) 3 dL_law_1164 rfl rfl ?_
  refine j_iload_n (pc' := 1166) 0 dL_law_1165 rfl rfl ?_
  refine j_iconst (pc' := 1167) dL_law_1166 rfl ?_
  refine j_iadd (pc' := 1168) dL_law_1167 rfl ?_
  refine w_sld (pc' := 1169) dL_law_1168 rfl (by omega) (by omega) ?_
  refine w_call hC hN hR1 (pc' := 1172) (As := [vi (sx xs (i + 1))]) (o := 97) (S := []) dL_law_1169 rfl m_L_137 w_X10_drink (c_X10_drink_x X M1 im1 (sx xs (i + 1)) (sx_in xs (i + 1))) rfl ⟨_, _, _, rfl, rfl, rfl⟩ (Nat.le_of_ble_eq_true rfl) (Nat.le_of_ble_eq_true rfl) rfl (Nat.le_of_ble_eq_true rfl) (fun v M2 hq hR2 => ?_)
  obtain ⟨r2, rfl, im2, f2, e2_0, e2_1, e2_2, e2_3, e2_4, e2_5, e2_6, e2_7, e2_8, e2_9, e2_10, e2_11, e2_12, e2_13, e2_14, e2_15, e2_16, e2_17, p2⟩ := hq
  have ic2 : IC M2 := IC.fr ic1 f2 (fun c z => by unfold free isT; first | omega | (dsimp only at z; omega))
  have fd2 := frC (Fr.tr Fr.rf f2 fi_77)
  have x2 := p2.2
  replace p2 := p2.1
  have wr2 : TR M2 := TR.fr wr1 (f2 32 (by decide)) (f2 106 (by decide)) (by omega) (congrFun (f2 0 (by decide)) 12) (by omega)
  show J X.1 RL cL_law 4 ret (ELW X M2 b L xs) C N Zl 1172 [(3, vi i), (2, vr X 97), (1, vr X 0), (0, .ref b)] [vi r2]
  refine j_pop (pc' := 1173) dL_law_1172 rfl rfl ?_
  refine j_goto (tgt := 1430) dL_law_1173 rfl ?_
  have F := Fr.tr (P := fun c => (fun c => c = 1 ∨ c = 9 ∨ c = 0 ∨ c = 96) c ∨ (fun c => c = 97 ∨ c = 98 ∨ c = 99) c) (Fr.tr Fr.rf f1 (fun c z => Or.inl z)) f2 (fun c z => Or.inr z)
  have k0_10 : M2 0 10 = M1 0 10 := congrFun (f2 0 (by first | decide | omega | (dsimp only; omega))) 10
  have k0_11 : M2 0 11 = M1 0 11 := congrFun (f2 0 (by first | decide | omega | (dsimp only; omega))) 11
  have k0_12 : M2 0 12 = M1 0 12 := congrFun (f2 0 (by first | decide | omega | (dsimp only; omega))) 12
  have k0_13 : M2 0 13 = M1 0 13 := congrFun (f2 0 (by first | decide | omega | (dsimp only; omega))) 13
  have k97_1 : M1 97 1 = M 97 1 := congrFun (f1 97 (by first | decide | omega | (dsimp only; omega))) 1
  have k97_10 : M1 97 10 = M 97 10 := congrFun (f1 97 (by first | decide | omega | (dsimp only; omega))) 10
  have k97_17 : M1 97 17 = M 97 17 := congrFun (f1 97 (by first | decide | omega | (dsimp only; omega))) 17
  have k97_33 : M1 97 33 = M 97 33 := congrFun (f1 97 (by first | decide | omega | (dsimp only; omega))) 33
  have k97_44 : M1 97 44 = M 97 44 := congrFun (f1 97 (by first | decide | omega | (dsimp only; omega))) 44
  obtain ⟨g1, g2, g3, g4, rf, ⟨g6a, g6b⟩, g7_⟩ := gr
  have k99_0 : M2 99 0 = M 99 0 := by omega
  have hrr : r1 = r2 := (by unfold CR at cr; omega)
  have ha_ : -6 ≤ r2 := by unfold CR at cr; omega
  have gr2 : GR M2 := GR.k ⟨g1, g2, g3, g4, rf, ⟨g6a, g6b⟩, g7_⟩ F (fun c z => by unfold inT; first | omega | (dsimp only at z; omega)) (G1.fr g1 F (fun c z => by unfold inT; first | omega | (dsimp only at z; omega)) k99_0 (fun k h1 h2 => (x2.1 k h1 (by omega)).trans (congrFun (f1 99 (by first | decide | omega | (dsimp only; omega))) k)) (fun j _ => congrFun ((f2 101 (by first | decide | omega | (dsimp only; omega))).trans (f1 101 (by first | decide | omega | (dsimp only; omega)))) j)) (G2.fr g2 ((f2 7 (by first | decide | omega | (dsimp only; omega))).trans (f1 7 (by first | decide | omega | (dsimp only; omega)))) (by omega) (by omega) (fun k h1 h2 => (x2.1 k h1 (by omega)).trans (congrFun (f1 99 (by first | decide | omega | (dsimp only; omega))) k))) (RFR.s2 rf ha_ hrr k0_10 x1.1 x2.2.1 (f2 96 (by first | decide | omega | (dsimp only; omega))) x1.2 (f1 98 (by first | decide | omega | (dsimp only; omega))) x2.2.2) ⟨by omega, by omega⟩ (by omega)
  exact hk M2 hR2 ic2 im2 ⟨by unfold CR at cr ⊢; omega, wr2, gr2⟩
set_option maxHeartbeats 4000000 in
set_option maxRecDepth 100000 in
theorem law_c29 (X : Cx) (b L : Nat) (xs : Nat → Int32) (C N : Nat) (hC : C + 0 ≤ 600000) (hN : N + 0 ≤ 7302249) (i : Int) (M : Mm) (hR : Rg M) (ic : IC M) (im : IM M) (crx : CX M) (h0 : 0 ≤ i) (h1 : i + 7 ≤ L) (hL : L ≤ 3584) (hk : ∀ M' : Mm, Rg M' → IC M' → IM M' → CX M' → J X.1 RL cL_law 4 ret (ELW X M' b L xs) C N Zl 1430 [(3, vi i), (2, vr X 97), (1, vr X 0), (0, .ref b)] []) : J X.1 RL cL_law 4 ret (ELW X M b L xs) C N Zl 1176 [(3, vi i), (2, vr X 97), (1, vr X 0), (0, .ref b)] [] := by
  have cr := crx.1
  have wr := crx.2.1
  have gr := crx.2.2
  have bb := ICb ic
  refine j_aload (pc' := 1177) 2 dL_law_1176 rfl rfl ?_
  refine j_aload (pc' := 1178) 3 dL_law_1177 rfl rfl ?_
  refine j_iload_n (pc' := 1179) 0 dL_law_1178 rfl rfl ?_
  refine j_iconst (pc' := 1180) dL_law_1179 rfl ?_
  refine j_iadd (pc' := 1181) dL_law_1180 rfl ?_
  refine w_sld (pc' := 1182) dL_law_1181 rfl (by omega) (by omega) ?_
  refine j_aload (pc' := 1183) 3 dL_law_1182 rfl rfl ?_
  refine j_iload_n (pc' := 1184) 0 dL_law_1183 rfl rfl ?_
  refine j_iconst (pc' := 1185) dL_law_1184 rfl ?_
  refine j_iadd (pc' := 1186) dL_law_1185 rfl ?_
  refine w_sld (pc' := 1187) dL_law_1186 rfl (by omega) (by omega) ?_
  refine j_aload (pc' := 1188) 3 dL_law_1187 rfl rfl ?_
  refine j_iload_n (pc' := 1189) 0 dL_law_1188 rfl rfl ?_
  refine j_iconst (pc' := 1190) dL_law_1189 rfl ?_
  refine j_iadd (pc' := 1191) dL_law_1190 rfl ?_
  refine w_sld (pc' := 1192) dL_law_1191 rfl (by omega) (by omega) ?_
  refine w_call hC hN hR (pc' := 1195) (As := [vi (sx xs (i + 1)), vi (sx xs (i + 2)), vi (sx xs (i + 3))]) (o := 0) (S := []) dL_law_1192 rfl m_L_138 w_X9_mix (c_X9_mix X M ic (sx xs (i + 1)) (sx_in xs (i + 1)) (sx xs (i + 2)) (sx_in xs (i + 2)) (sx xs (i + 3)) (sx_in xs (i + 3))) rfl ⟨_, _, _, rfl, rfl, rfl⟩ (Nat.le_of_ble_eq_true rfl) (Nat.le_of_ble_eq_true rfl) rfl (Nat.le_of_ble_eq_true rfl) (fun v M1 hq hR1 => ?_)
  obtain ⟨r1, rfl, ic1, f1, e1_0, e1_1, e1_2, e1_3, e1_4, e1_5, e1_6, e1_7, e1_8, e1_9, e1_10, e1_11, e1_12, e1_13, e1_14, e1_15, e1_16, e1_17, e1_18, p1⟩ := hq
  have im1 : IM M1 := IM.fr im f1 (fun c z => by first | omega | (dsimp only at z; omega))
  have fd1 := frD (Fr.tr Fr.rf f1 fi_94)
  have wr1 : TR M1 := TR.fr wr (f1 32 (by decide)) (f1 106 (by decide)) (by omega) (by omega) (congrFun (f1 97 (by decide)) 17)
  show J X.1 RL cL_law 4 ret (ELW X M1 b L xs) C N Zl 1195 [(3, vi i), (2, vr X 97), (1, vr X 0), (0, .ref b)] [vi r1]
  refine j_pop (pc' := 1196) dL_law_1195 rfl rfl ?_
  refine j_aload (pc' := 1197) 1 dL_law_1196 rfl rfl ?_
  refine j_aload (pc' := 1198) 3 dL_law_1197 rfl rfl ?_
  refine j_iload_n (pc' := 1199) 0 dL_law_1198 rfl rfl ?_
  refine j_iconst (pc' := 1200) dL_law_1199 rfl ?_
  refine j_iadd (pc' := 1201) dL_law_1200 rfl ?_
  refine w_sld (pc' := 1202) dL_law_1201 rfl (by omega) (by omega) ?_
  refine j_aload (pc' := 1203) 3 dL_law_1202 rfl rfl ?_
  refine j_iload_n (pc' := 1204) 0 dL_law_1203 rfl rfl ?_
  refine j_iconst (pc' := 1205) dL_law_1204 rfl ?_
  refine j_iadd (pc' := 1206) dL_law_1205 rfl ?_
  refine w_sld (pc' := 1207) dL_law_1206 rfl (by omega) (by omega) ?_
  refine j_aload (pc' := 1208) 3 dL_law_1207 rfl rfl ?_
  refine j_iload_n (pc' := 1209) 0 dL_law_1208 rfl rfl ?_
  refine j_iconst (pc' := 1210) dL_law_1209 rfl ?_
  refine j_iadd (pc' := 1211) dL_law_1210 rfl ?_
  refine w_sld (pc' := 1212) dL_law_1211 rfl (by omega) (by omega) ?_
  refine w_call hC hN hR1 (pc' := 1215) (As := [vi (sx xs (i + 1)), vi (sx xs (i + 2)), vi (sx xs (i + 3))]) (o := 97) (S := []) dL_law_1212 rfl m_L_141 w_X10_mix (c_X10_mix X M1 im1 (sx xs (i + 1)) (sx_in xs (i + 1)) (sx xs (i + 2)) (sx_in xs (i + 2)) (sx xs (i + 3)) (sx_in xs (i + 3))) rfl ⟨_, _, _, rfl, rfl, rfl⟩ (Nat.le_of_ble_eq_true rfl) (Nat.le_of_ble_eq_true rfl) rfl (Nat.le_of_ble_eq_true rfl) (fun v M2 hq hR2 => ?_)
  obtain ⟨r2, rfl, im2, f2, e2_0, e2_1, e2_2, e2_3, e2_4, e2_5, e2_6, e2_7, e2_8, e2_9, e2_10, e2_11, e2_12, e2_13, e2_14, e2_15, e2_16, e2_17, e2_18, e2_19, p2⟩ := hq
  have ic2 : IC M2 := IC.fr ic1 f2 (fun c z => by unfold free isT; first | omega | (dsimp only at z; omega))
  have fd2 := frC (Fr.tr Fr.rf f2 fi_95)
  have wr2 : TR M2 := TR.fr wr1 (f2 32 (by decide)) (f2 106 (by decide)) (by omega) (congrFun (f2 0 (by decide)) 12) (by omega)
  show J X.1 RL cL_law 4 ret (ELW X M2 b L xs) C N Zl 1215 [(3, vi i), (2, vr X 97), (1, vr X 0), (0, .ref b)] [vi r2]
  refine j_pop (pc' := 1216) dL_law_1215 rfl rfl ?_
  refine j_goto (tgt := 1430) dL_law_1216 rfl ?_
  have F := Fr.tr (P := fun c => (fun c => (84 ≤ c ∧ c ≤ 90)) c ∨ (fun c => c = 97 ∨ c = 115) c) (Fr.tr Fr.rf f1 (fun c z => Or.inl z)) f2 (fun c z => Or.inr z)
  have k0_10 : M2 0 10 = M1 0 10 := congrFun (f2 0 (by first | decide | omega | (dsimp only; omega))) 10
  have k0_11 : M2 0 11 = M1 0 11 := congrFun (f2 0 (by first | decide | omega | (dsimp only; omega))) 11
  have k0_12 : M2 0 12 = M1 0 12 := congrFun (f2 0 (by first | decide | omega | (dsimp only; omega))) 12
  have k0_13 : M2 0 13 = M1 0 13 := congrFun (f2 0 (by first | decide | omega | (dsimp only; omega))) 13
  have k97_1 : M1 97 1 = M 97 1 := congrFun (f1 97 (by first | decide | omega | (dsimp only; omega))) 1
  have k97_10 : M1 97 10 = M 97 10 := congrFun (f1 97 (by first | decide | omega | (dsimp only; omega))) 10
  have k97_17 : M1 97 17 = M 97 17 := congrFun (f1 97 (by first | decide | omega | (dsimp only; omega))) 17
  have k97_33 : M1 97 33 = M 97 33 := congrFun (f1 97 (by first | decide | omega | (dsimp only; omega))) 33
  have k97_44 : M1 97 44 = M 97 44 := congrFun (f1 97 (by first | decide | omega | (dsimp only; omega))) 44
  obtain ⟨g1, g2, g3, g4, rf, ⟨g6a, g6b⟩, g7_⟩ := gr
  have k99_0 : M2 99 0 = M 99 0 := congrFun ((f2 99 (by first | decide | omega | (dsimp only; omega))).trans (f1 99 (by first | decide | omega | (dsimp only; omega)))) 0
  have gr2 : GR M2 := GR.k ⟨g1, g2, g3, g4, rf, ⟨g6a, g6b⟩, g7_⟩ F (fun c z => by unfold inT; first | omega | (dsimp only at z; omega)) (G1.fr g1 F (fun c z => by unfold inT; first | omega | (dsimp only at z; omega)) k99_0 (fun k _ _ => congrFun ((f2 99 (by first | decide | omega | (dsimp only; omega))).trans (f1 99 (by first | decide | omega | (dsimp only; omega)))) k) (fun j _ => congrFun ((f2 101 (by first | decide | omega | (dsimp only; omega))).trans (f1 101 (by first | decide | omega | (dsimp only; omega)))) j)) (G2.fr g2 ((f2 7 (by first | decide | omega | (dsimp only; omega))).trans (f1 7 (by first | decide | omega | (dsimp only; omega)))) (by omega) (by omega) (fun k _ _ => congrFun ((f2 99 (by first | decide | omega | (dsimp only; omega))).trans (f1 99 (by first | decide | omega | (dsimp only; omega)))) k)) (RFR.fr rf (by omega) (by omega) ((f2 96 (by first | decide | omega | (dsimp only; omega))).trans (f1 96 (by first | decide | omega | (dsimp only; omega)))) ((f2 98 (by first | decide | omega | (dsimp only; omega))).trans (f1 98 (by first | decide | omega | (dsimp only; omega))))) ⟨by omega, by omega⟩ (by omega)
  exact hk M2 hR2 ic2 im2 ⟨by unfold CR at cr ⊢; omega, wr2, gr2⟩
set_option maxHeartbeats 4000000 in
set_option maxRecDepth 100000 in
theorem law_c30 (X : Cx) (b L : Nat) (xs : Nat → Int32) (C N : Nat) (hC : C + 0 ≤ 600000) (hN : N + 0 ≤ 7302249) (i : Int) (M : Mm) (hR : Rg M) (ic : IC M) (im : IM M) (crx : CX M) (h0 : 0 ≤ i) (h1 : i + 7 ≤ L) (hL : L ≤ 3584) (hk : ∀ M' : Mm, Rg M' → IC M' → IM M' → CX M' → J X.1 RL cL_law 4 ret (ELW X M' b L xs) C N Zl 1430 [(3, vi i), (2, vr X 97), (1, vr X 0), (0, .ref b)] []) : J X.1 RL cL_law 4 ret (ELW X M b L xs) C N Zl 1219 [(3, vi i), (2, vr X 97), (1, vr X 0), (0, .ref b)] [] := by
  have cr := crx.1
  have wr := crx.2.1
  have gr := crx.2.2
  have bb := ICb ic
  refine j_aload (pc' := 1220) 2 dL_law_1219 rfl rfl ?_
  refine j_aload (pc' := 1221) 3 dL_law_1220 rfl rfl ?_
  refine j_iload_n (pc' := 1222) 0 dL_law_1221 rfl rfl ?_
  refine j_iconst (pc' := 1223) dL_law_1222 rfl ?_
  refine j_iadd (pc' := 1224) dL_law_1223 rfl ?_
  refine w_sld (pc' := 1225) dL_law_1224 rfl (by omega) (by omega) ?_
  refine j_aload (pc' := 1226) 3 dL_law_1225 rfl rfl ?_
  refine j_iload_n (pc' := 1227) 0 dL_law_1226 rfl rfl ?_
  refine j_iconst (pc' := 1228) dL_law_1227 rfl ?_
  refine j_iadd (pc' := 1229) dL_law_1228 rfl ?_
  refine w_sld (pc' := 1230) dL_law_1229 rfl (by omega) (by omega) ?_
  refine j_aload (pc' := 1231) 3 dL_law_1230 rfl rfl ?_
  refine j_iload_n (pc' := 1232) 0 dL_law_1231 rfl rfl ?_
  refine j_iconst (pc' := 1233) dL_law_1232 rfl ?_
  refine j_iadd (pc' := 1234) dL_law_1233 rfl ?_
  refine w_sld (pc' := 1235) dL_law_1234 rfl (by omega) (by omega) ?_
  refine j_aload (pc' := 1236) 3 dL_law_1235 rfl rfl ?_
  refine j_iload_n (pc' := 1237) 0 dL_law_1236 rfl rfl ?_
  refine j_iconst (pc' := 1238) dL_law_1237 rfl ?_
  refine j_iadd (pc' := 1239) dL_law_1238 rfl ?_
  refine w_sld (pc' := 1240) dL_law_1239 rfl (by omega) (by omega) ?_
  refine j_aload (pc' := 1241) 3 dL_law_1240 rfl rfl ?_
  refine j_iload_n (pc' := 1242) 0 dL_law_1241 rfl rfl ?_
  refine j_iconst (pc' := 1243) dL_law_1242 rfl ?_
  refine j_iadd (pc' := 1244) dL_law_1243 rfl ?_
  refine w_sld (pc' := 1245) dL_law_1244 rfl (by omega) (by omega) ?_
  refine w_call hC hN hR (pc' := 1248) (As := [vi (sx xs (i + 1)), vi (sx xs (i + 2)), vi (sx xs (i + 3)), vi (sx xs (i + 4)), vi (sx xs (i + 5))]) (o := 0) (S := []) dL_law_1245 rfl m_L_142 w_X9_cards (c_X9_cards X M ic (sx xs (i + 1)) (sx_in xs (i + 1)) (sx xs (i + 2)) (sx_in xs (i + 2)) (sx xs (i + 3)) (sx_in xs (i + 3)) (sx xs (i + 4)) (sx_in xs (i + 4)) (sx xs (i + 5)) (sx_in xs (i + 5))) rfl ⟨_, _, _, rfl, rfl, rfl⟩ (Nat.le_of_ble_eq_true rfl) (Nat.le_of_ble_eq_true rfl) rfl (Nat.le_of_ble_eq_true rfl) (fun v M1 hq hR1 => ?_)
  obtain ⟨r1, rfl, e1, p1⟩ := hq
  rw [e1]
  show J X.1 RL cL_law 4 ret (ELW X M b L xs) C N Zl 1248 [(3, vi i), (2, vr X 97), (1, vr X 0), (0, .ref b)] [vl r1]
  refine j_pop2 (pc' := 1249) dL_law_1248 rfl rfl ?_
  refine j_aload (pc' := 1250) 1 dL_law_1249 rfl rfl ?_
  refine j_aload (pc' := 1251) 3 dL_law_1250 rfl rfl ?_
  refine j_iload_n (pc' := 1252) 0 dL_law_1251 rfl rfl ?_
  refine j_iconst (pc' := 1253) dL_law_1252 rfl ?_
  refine j_iadd (pc' := 1254) dL_law_1253 rfl ?_
  refine w_sld (pc' := 1255) dL_law_1254 rfl (by omega) (by omega) ?_
  refine j_aload (pc' := 1256) 3 dL_law_1255 rfl rfl ?_
  refine j_iload_n (pc' := 1257) 0 dL_law_1256 rfl rfl ?_
  refine j_iconst (pc' := 1258) dL_law_1257 rfl ?_
  refine j_iadd (pc' := 1259) dL_law_1258 rfl ?_
  refine w_sld (pc' := 1260) dL_law_1259 rfl (by omega) (by omega) ?_
  refine j_aload (pc' := 1261) 3 dL_law_1260 rfl rfl ?_
  refine j_iload_n (pc' := 1262) 0 dL_law_1261 rfl rfl ?_
  refine j_iconst (pc' := 1263) dL_law_1262 rfl ?_
  refine j_iadd (pc' := 1264) dL_law_1263 rfl ?_
  refine w_sld (pc' := 1265) dL_law_1264 rfl (by omega) (by omega) ?_
  refine j_aload (pc' := 1266) 3 dL_law_1265 rfl rfl ?_
  refine j_iload_n (pc' := 1267) 0 dL_law_1266 rfl rfl ?_
  refine j_iconst (pc' := 1268) dL_law_1267 rfl ?_
  refine j_iadd (pc' := 1269) dL_law_1268 rfl ?_
  refine w_sld (pc' := 1270) dL_law_1269 rfl (by omega) (by omega) ?_
  refine j_aload (pc' := 1271) 3 dL_law_1270 rfl rfl ?_
  refine j_iload_n (pc' := 1272) 0 dL_law_1271 rfl rfl ?_
  refine j_iconst (pc' := 1273) dL_law_1272 rfl ?_
  refine j_iadd (pc' := 1274) dL_law_1273 rfl ?_
  refine w_sld (pc' := 1275) dL_law_1274 rfl (by omega) (by omega) ?_
  refine w_call hC hN hR (pc' := 1278) (As := [vi (sx xs (i + 1)), vi (sx xs (i + 2)), vi (sx xs (i + 3)), vi (sx xs (i + 4)), vi (sx xs (i + 5))]) (o := 97) (S := []) dL_law_1275 rfl m_L_146 w_X10_cards (c_X10_cards X M im (sx xs (i + 1)) (sx_in xs (i + 1)) (sx xs (i + 2)) (sx_in xs (i + 2)) (sx xs (i + 3)) (sx_in xs (i + 3)) (sx xs (i + 4)) (sx_in xs (i + 4)) (sx xs (i + 5)) (sx_in xs (i + 5))) rfl ⟨_, _, _, rfl, rfl, rfl⟩ (Nat.le_of_ble_eq_true rfl) (Nat.le_of_ble_eq_true rfl) rfl (Nat.le_of_ble_eq_true rfl) (fun v M2 hq hR2 => ?_)
  obtain ⟨r2, rfl, im2, f2, e2_0, e2_1, e2_2, e2_3, e2_4, e2_5, e2_6, e2_7, e2_8, e2_9, e2_10, e2_11, e2_12, e2_13, e2_14, e2_15, e2_16, e2_17, e2_18, e2_19, p2⟩ := hq
  have ic2 : IC M2 := IC.fr ic f2 (fun c z => by unfold free isT; first | omega | (dsimp only at z; omega))
  have fd2 := frC (Fr.tr Fr.rf f2 fi_78)
  have wr2 : TR M2 := TR.fr wr (f2 32 (by decide)) (f2 106 (by decide)) (by omega) (congrFun (f2 0 (by decide)) 12) (by omega)
  show J X.1 RL cL_law 4 ret (ELW X M2 b L xs) C N Zl 1278 [(3, vi i), (2, vr X 97), (1, vr X 0), (0, .ref b)] [vl r2]
  refine j_pop2 (pc' := 1279) dL_law_1278 rfl rfl ?_
  refine j_goto (tgt := 1430) dL_law_1279 rfl ?_
  have F := f2
  have k0_10 : M2 0 10 = M 0 10 := congrFun (f2 0 (by first | decide | omega | (dsimp only; omega))) 10
  have k0_11 : M2 0 11 = M 0 11 := congrFun (f2 0 (by first | decide | omega | (dsimp only; omega))) 11
  have k0_12 : M2 0 12 = M 0 12 := congrFun (f2 0 (by first | decide | omega | (dsimp only; omega))) 12
  have k0_13 : M2 0 13 = M 0 13 := congrFun (f2 0 (by first | decide | omega | (dsimp only; omega))) 13
  obtain ⟨g1, g2, g3, g4, rf, ⟨g6a, g6b⟩, g7_⟩ := gr
  have k99_0 : M2 99 0 = M 99 0 := congrFun (f2 99 (by first | decide | omega | (dsimp only; omega))) 0
  have gr2 : GR M2 := GR.k ⟨g1, g2, g3, g4, rf, ⟨g6a, g6b⟩, g7_⟩ F (fun c z => by unfold inT; first | omega | (dsimp only at z; omega)) (G1.fr g1 F (fun c z => by unfold inT; first | omega | (dsimp only at z; omega)) k99_0 (fun k _ _ => congrFun (f2 99 (by first | decide | omega | (dsimp only; omega))) k) (fun j _ => congrFun (f2 101 (by first | decide | omega | (dsimp only; omega))) j)) (G2.fr g2 (f2 7 (by first | decide | omega | (dsimp only; omega))) (by omega) (by omega) (fun k _ _ => congrFun (f2 99 (by first | decide | omega | (dsimp only; omega))) k)) (RFR.fr rf (by omega) (by omega) (f2 96 (by first | decide | omega | (dsimp only; omega))) (f2 98 (by first | decide | omega | (dsimp only; omega)))) ⟨by omega, by omega⟩ (by omega)
  exact hk M2 hR2 ic2 im2 ⟨by unfold CR at cr ⊢; omega, wr2, gr2⟩
set_option maxHeartbeats 4000000 in
set_option maxRecDepth 100000 in
theorem law_c31 (X : Cx) (b L : Nat) (xs : Nat → Int32) (C N : Nat) (hC : C + 0 ≤ 600000) (hN : N + 0 ≤ 7302249) (i : Int) (M : Mm) (hR : Rg M) (ic : IC M) (im : IM M) (crx : CX M) (h0 : 0 ≤ i) (h1 : i + 7 ≤ L) (hL : L ≤ 3584) (hk : ∀ M' : Mm, Rg M' → IC M' → IM M' → CX M' → J X.1 RL cL_law 4 ret (ELW X M' b L xs) C N Zl 1430 [(3, vi i), (2, vr X 97), (1, vr X 0), (0, .ref b)] []) : J X.1 RL cL_law 4 ret (ELW X M b L xs) C N Zl 1282 [(3, vi i), (2, vr X 97), (1, vr X 0), (0, .ref b)] [] := by
  have cr := crx.1
  have wr := crx.2.1
  have gr := crx.2.2
  have bb := ICb ic
  refine j_aload (pc' := 1283) 2 dL_law_1282 rfl rfl ?_
  refine j_aload (pc' := 1284) 3 dL_law_1283 rfl rfl ?_
  refine j_iload_n (pc' := 1285) 0 dL_law_1284 rfl rfl ?_
  refine j_iconst (pc' := 1286) dL_law_1285 rfl ?_
  refine j_iadd (pc' := 1287) dL_law_1286 rfl ?_
  refine w_sld (pc' := 1288) dL_law_1287 rfl (by omega) (by omega) ?_
  refine j_aload (pc' := 1289) 3 dL_law_1288 rfl rfl ?_
  refine j_iload_n (pc' := 1290) 0 dL_law_1289 rfl rfl ?_
  refine j_iconst (pc' := 1291) dL_law_1290 rfl ?_
  refine j_iadd (pc' := 1292) dL_law_1291 rfl ?_
  refine w_sld (pc' := 1293) dL_law_1292 rfl (by omega) (by omega) ?_
  obtain ⟨ta, tb, P, Lq, F, Z, tv, pub⟩ := gr.1
  refine w_call hC hN hR (pc' := 1296) (As := [vi (sx xs (i + 1)), vi (sx xs (i + 2))]) (o := 0) (S := []) dL_law_1293 rfl m_L_147 w_X9_night (c_X9_night_x X M ic (sx xs (i + 1)) (sx_in xs (i + 1)) (sx xs (i + 2)) (sx_in xs (i + 2)) ta tb (M 99 0) P Lq F Z (M 101) (fun j => M 99 (4 + j)) tv pub (IM.sz6 im) (G2.w gr.2.1 im (by unfold CR at cr; omega))) rfl ⟨_, _, _, rfl, rfl, rfl⟩ (Nat.le_of_ble_eq_true rfl) (Nat.le_of_ble_eq_true rfl) rfl (Nat.le_of_ble_eq_true rfl) (fun v M1 hq hR1 => ?_)
  obtain ⟨r1, rfl, ic1, f1, e1_0, e1_1, e1_2, e1_3, e1_4, e1_5, e1_6, e1_7, e1_8, e1_9, e1_10, e1_11, e1_12, e1_13, e1_14, e1_15, e1_16, e1_17, p1⟩ := hq
  have im1 : IM M1 := IM.fr im f1 (fun c z => by first | omega | (dsimp only at z; omega))
  have fd1 := frD (Fr.tr Fr.rf f1 fi_96)
  have wr1 : TR M1 := TR.fr wr (f1 32 (by decide)) (f1 106 (by decide)) (by omega) (by omega) (congrFun (f1 97 (by decide)) 17)
  show J X.1 RL cL_law 4 ret (ELW X M1 b L xs) C N Zl 1296 [(3, vi i), (2, vr X 97), (1, vr X 0), (0, .ref b)] [vi r1]
  refine j_pop (pc' := 1297) dL_law_1296 rfl rfl ?_
  refine j_aload (pc' := 1298) 1 dL_law_1297 rfl rfl ?_
  refine j_aload (pc' := 1299) 3 dL_law_1298 rfl rfl ?_
  refine j_iload_n (pc' := 1300) 0 dL_law_1299 rfl rfl ?_
  refine j_iconst (pc' := 1301) dL_law_1300 rfl ?_
  refine j_iadd (pc' := 1302) dL_law_1301 rfl ?_
  refine w_sld (pc' := 1303) dL_law_1302 rfl (by omega) (by omega) ?_
  refine j_aload (pc' := 1304) 3 dL_law_1303 rfl rfl ?_
  refine j_iload_n (pc' := 1305) 0 dL_law_1304 rfl rfl ?_
  refine j_iconst (pc' := 1306) dL_law_1305 rfl ?_
  refine j_iadd (pc' := 1307) dL_law_1306 rfl ?_
  refine w_sld (pc' := 1308) dL_law_1307 rfl (by omega) (by omega) ?_
  refine w_call hC hN hR1 (pc' := 1311) (As := [vi (sx xs (i + 1)), vi (sx xs (i + 2))]) (o := 97) (S := []) dL_law_1308 rfl m_L_150 w_X10_night (c_X10_night_x X M1 im1 (sx xs (i + 1)) (sx_in xs (i + 1)) (sx xs (i + 2)) (sx_in xs (i + 2))) rfl ⟨_, _, _, rfl, rfl, rfl⟩ (Nat.le_of_ble_eq_true rfl) (Nat.le_of_ble_eq_true rfl) rfl (Nat.le_of_ble_eq_true rfl) (fun v M2 hq hR2 => ?_)
  obtain ⟨r2, rfl, im2, f2, e2_0, e2_1, e2_2, e2_3, e2_4, e2_5, e2_6, e2_7, e2_8, e2_9, e2_10, e2_11, e2_12, e2_13, e2_14, e2_15, e2_16, e2_17, p2⟩ := hq
  have ic2 : IC M2 := IC.fr ic1 f2 (fun c z => by unfold free isT; first | omega | (dsimp only at z; omega))
  have fd2 := frC (Fr.tr Fr.rf f2 fi_97)
  have wr2 : TR M2 := TR.fr wr1 (f2 32 (by decide)) (f2 106 (by decide)) (by omega) (congrFun (f2 0 (by decide)) 12) (by omega)
  show J X.1 RL cL_law 4 ret (ELW X M2 b L xs) C N Zl 1311 [(3, vi i), (2, vr X 97), (1, vr X 0), (0, .ref b)] [vi r2]
  refine j_pop (pc' := 1312) dL_law_1311 rfl rfl ?_
  refine j_goto (tgt := 1430) dL_law_1312 rfl ?_
  have F := Fr.tr (P := fun c => (fun c => (91 ≤ c ∧ c ≤ 95) ∨ c = 0 ∨ c = 96) c ∨ (fun c => c = 97 ∨ c = 98 ∨ c = 101 ∨ c = 104 ∨ c = 105 ∨ c = 116) c) (Fr.tr Fr.rf f1 (fun c z => Or.inl z)) f2 (fun c z => Or.inr z)
  have k0_10 : M2 0 10 = M1 0 10 := congrFun (f2 0 (by first | decide | omega | (dsimp only; omega))) 10
  have k0_11 : M2 0 11 = M1 0 11 := congrFun (f2 0 (by first | decide | omega | (dsimp only; omega))) 11
  have k0_12 : M2 0 12 = M1 0 12 := congrFun (f2 0 (by first | decide | omega | (dsimp only; omega))) 12
  have k0_13 : M2 0 13 = M1 0 13 := congrFun (f2 0 (by first | decide | omega | (dsimp only; omega))) 13
  have k97_1 : M1 97 1 = M 97 1 := congrFun (f1 97 (by first | decide | omega | (dsimp only; omega))) 1
  have k97_10 : M1 97 10 = M 97 10 := congrFun (f1 97 (by first | decide | omega | (dsimp only; omega))) 10
  have k97_17 : M1 97 17 = M 97 17 := congrFun (f1 97 (by first | decide | omega | (dsimp only; omega))) 17
  have k97_33 : M1 97 33 = M 97 33 := congrFun (f1 97 (by first | decide | omega | (dsimp only; omega))) 33
  have k97_44 : M1 97 44 = M 97 44 := congrFun (f1 97 (by first | decide | omega | (dsimp only; omega))) 44
  obtain ⟨g1, g2, g3, g4, rf, ⟨g6a, g6b⟩, g7_⟩ := gr
  have k99_0 : M2 99 0 = M 99 0 := congrFun ((f2 99 (by first | decide | omega | (dsimp only; omega))).trans (f1 99 (by first | decide | omega | (dsimp only; omega)))) 0
  obtain ⟨pn0, pn1, pn2, n0_, a0_⟩ := p1
  obtain ⟨qn0, qn1, qn2, qe, qt, qa⟩ := p2
  obtain ⟨hrr, gg7⟩ := GR.night ⟨g1, g2, g3, g4, rf, ⟨g6a, g6b⟩, g7_⟩ im (by unfold CR at cr; omega) (f1 99 (by first | decide | omega | (dsimp only; omega))) (f1 101 (by first | decide | omega | (dsimp only; omega))) f2 (fun c z => by unfold inT; first | omega | (dsimp only at z; omega)) F k97_44 (f1 116 (by first | decide | omega | (dsimp only; omega))) pn1 pn2 qn1 qn2
  have gr2 : GR M2 := ⟨(G1.fr g1 F (fun c z => by unfold inT; first | omega | (dsimp only at z; omega)) k99_0 (fun k _ _ => congrFun ((f2 99 (by first | decide | omega | (dsimp only; omega))).trans (f1 99 (by first | decide | omega | (dsimp only; omega)))) k) (by rw [← show M1 101 = M 101 from (f1 101 (by first | decide | omega | (dsimp only; omega)))]; exact qe)), (G2.fr g2 ((f2 7 (by first | decide | omega | (dsimp only; omega))).trans (f1 7 (by first | decide | omega | (dsimp only; omega)))) (by omega) (by omega) (fun k _ _ => congrFun ((f2 99 (by first | decide | omega | (dsimp only; omega))).trans (f1 99 (by first | decide | omega | (dsimp only; omega)))) k)), (g3.fr F (fun c z => by unfold inT; first | omega | (dsimp only at z; omega)) (by rw [((f2 29 (by first | decide | omega | (dsimp only; omega))).trans (f1 29 (by first | decide | omega | (dsimp only; omega))))]) ((f2 16 (by first | decide | omega | (dsimp only; omega))).trans (f1 16 (by first | decide | omega | (dsimp only; omega)))) (by omega) ((f2 100 (by first | decide | omega | (dsimp only; omega))).trans (f1 100 (by first | decide | omega | (dsimp only; omega)))) ((f2 102 (by first | decide | omega | (dsimp only; omega))).trans (f1 102 (by first | decide | omega | (dsimp only; omega))))), (g4.fr F (fun c z => by unfold inT; first | omega | (dsimp only at z; omega)) (by rw [((f2 29 (by first | decide | omega | (dsimp only; omega))).trans (f1 29 (by first | decide | omega | (dsimp only; omega))))]) ((f2 25 (by first | decide | omega | (dsimp only; omega))).trans (f1 25 (by first | decide | omega | (dsimp only; omega)))) (by omega) ((f2 100 (by first | decide | omega | (dsimp only; omega))).trans (f1 100 (by first | decide | omega | (dsimp only; omega)))) ((f2 102 (by first | decide | omega | (dsimp only; omega))).trans (f1 102 (by first | decide | omega | (dsimp only; omega))))), (RFR.s2 rf (by omega) hrr k0_10 n0_ qt (f2 96 (by first | decide | omega | (dsimp only; omega))) a0_ (f1 98 (by first | decide | omega | (dsimp only; omega))) qa), ⟨by omega, by omega⟩, gg7⟩
  exact hk M2 hR2 ic2 im2 ⟨by unfold CR at cr ⊢; omega, wr2, gr2⟩
set_option maxHeartbeats 4000000 in
set_option maxRecDepth 100000 in
theorem law_c32 (X : Cx) (b L : Nat) (xs : Nat → Int32) (C N : Nat) (hC : C + 0 ≤ 600000) (hN : N + 0 ≤ 7302249) (i : Int) (M : Mm) (hR : Rg M) (ic : IC M) (im : IM M) (crx : CX M) (h0 : 0 ≤ i) (h1 : i + 7 ≤ L) (hL : L ≤ 3584) (hk : ∀ M' : Mm, Rg M' → IC M' → IM M' → CX M' → J X.1 RL cL_law 4 ret (ELW X M' b L xs) C N Zl 1430 [(3, vi i), (2, vr X 97), (1, vr X 0), (0, .ref b)] []) : J X.1 RL cL_law 4 ret (ELW X M b L xs) C N Zl 1315 [(3, vi i), (2, vr X 97), (1, vr X 0), (0, .ref b)] [] := by
  have cr := crx.1
  have wr := crx.2.1
  have gr := crx.2.2
  have bb := ICb ic
  refine j_aload (pc' := 1316) 2 dL_law_1315 rfl rfl ?_
  refine j_aload (pc' := 1317) 3 dL_law_1316 rfl rfl ?_
  refine j_iload_n (pc' := 1318) 0 dL_law_1317 rfl rfl ?_
  refine j_iconst (pc' := 1319) dL_law_1318 rfl ?_
  refine j_iadd (pc' := 1320) dL_law_1319 rfl ?_
  refine w_sld (pc' := 1321) dL_law_1320 rfl (by omega) (by omega) ?_
  refine j_aload (pc' := 1322) 3 dL_law_1321 rfl rfl ?_
  refine j_iload_n (pc' := 1323) 0 dL_law_1322 rfl rfl ?_
  refine j_iconst (pc' := 1324) dL_law_1323 rfl ?_
  refine j_iadd (pc' := 1325) dL_law_1324 rfl ?_
  refine w_sld (pc' := 1326) dL_law_1325 rfl (by omega) (by omega) ?_
  obtain ⟨m7, z7, ⟨ta, tb, P, Lq, F, Z, tv, pap⟩, g7⟩ := gr.2.2.2.2.2.2
  refine w_call hC hN hR (pc' := 1329) (As := [vi (sx xs (i + 1)), vi (sx xs (i + 2))]) (o := 0) (S := []) dL_law_1326 rfl m_L_151 w_X9_drawn (c_X9_drawn_x X M ic (sx xs (i + 1)) (sx_in xs (i + 1)) (sx xs (i + 2)) (sx_in xs (i + 2)) ta tb (M 97 44) P Lq F Z m7 z7 tv pap) rfl ⟨_, _, _, rfl, rfl, rfl⟩ (Nat.le_of_ble_eq_true rfl) (Nat.le_of_ble_eq_true rfl) rfl (Nat.le_of_ble_eq_true rfl) (fun v M1 hq hR1 => ?_)
  obtain ⟨r1, rfl, e1, p1⟩ := hq
  rw [e1]
  show J X.1 RL cL_law 4 ret (ELW X M b L xs) C N Zl 1329 [(3, vi i), (2, vr X 97), (1, vr X 0), (0, .ref b)] [vi r1]
  refine j_pop (pc' := 1330) dL_law_1329 rfl rfl ?_
  refine j_aload (pc' := 1331) 1 dL_law_1330 rfl rfl ?_
  refine j_aload (pc' := 1332) 3 dL_law_1331 rfl rfl ?_
  refine j_iload_n (pc' := 1333) 0 dL_law_1332 rfl rfl ?_
  refine j_iconst (pc' := 1334) dL_law_1333 rfl ?_
  refine j_iadd (pc' := 1335) dL_law_1334 rfl ?_
  refine w_sld (pc' := 1336) dL_law_1335 rfl (by omega) (by omega) ?_
  refine j_aload (pc' := 1337) 3 dL_law_1336 rfl rfl ?_
  refine j_iload_n (pc' := 1338) 0 dL_law_1337 rfl rfl ?_
  refine j_iconst (pc' := 1339) dL_law_1338 rfl ?_
  refine j_iadd (pc' := 1340) dL_law_1339 rfl ?_
  refine w_sld (pc' := 1341) dL_law_1340 rfl (by omega) (by omega) ?_
  refine w_call hC hN hR (pc' := 1344) (As := [vi (sx xs (i + 1)), vi (sx xs (i + 2))]) (o := 97) (S := []) dL_law_1341 rfl m_L_154 w_X10_drawn (c_X10_drawn_x X M im (sx xs (i + 1)) (sx_in xs (i + 1)) (sx xs (i + 2)) (sx_in xs (i + 2))) rfl ⟨_, _, _, rfl, rfl, rfl⟩ (Nat.le_of_ble_eq_true rfl) (Nat.le_of_ble_eq_true rfl) rfl (Nat.le_of_ble_eq_true rfl) (fun v M2 hq hR2 => ?_)
  obtain ⟨r2, rfl, im2, f2, e2_0, e2_1, e2_2, e2_3, e2_4, e2_5, e2_6, e2_7, e2_8, e2_9, e2_10, e2_11, e2_12, e2_13, e2_14, e2_15, e2_16, e2_17, e2_18, e2_19, p2⟩ := hq
  have ic2 : IC M2 := IC.fr ic f2 (fun c z => by unfold free isT; first | omega | (dsimp only at z; omega))
  have fd2 := frC (Fr.tr Fr.rf f2 fi_78)
  have wr2 : TR M2 := TR.fr wr (f2 32 (by decide)) (f2 106 (by decide)) (by omega) (congrFun (f2 0 (by decide)) 12) (by omega)
  show J X.1 RL cL_law 4 ret (ELW X M2 b L xs) C N Zl 1344 [(3, vi i), (2, vr X 97), (1, vr X 0), (0, .ref b)] [vi r2]
  refine j_pop (pc' := 1345) dL_law_1344 rfl rfl ?_
  refine j_goto (tgt := 1430) dL_law_1345 rfl ?_
  have F := f2
  have k0_10 : M2 0 10 = M 0 10 := congrFun (f2 0 (by first | decide | omega | (dsimp only; omega))) 10
  have k0_11 : M2 0 11 = M 0 11 := congrFun (f2 0 (by first | decide | omega | (dsimp only; omega))) 11
  have k0_12 : M2 0 12 = M 0 12 := congrFun (f2 0 (by first | decide | omega | (dsimp only; omega))) 12
  have k0_13 : M2 0 13 = M 0 13 := congrFun (f2 0 (by first | decide | omega | (dsimp only; omega))) 13
  obtain ⟨g1, g2, g3, g4, rf, ⟨g6a, g6b⟩, g7_⟩ := gr
  have k99_0 : M2 99 0 = M 99 0 := congrFun (f2 99 (by first | decide | omega | (dsimp only; omega))) 0
  have hrr : r1 = r2 := GR.drawn g7 p1 p2
  have gr2 : GR M2 := GR.k ⟨g1, g2, g3, g4, rf, ⟨g6a, g6b⟩, g7_⟩ F (fun c z => by unfold inT; first | omega | (dsimp only at z; omega)) (G1.fr g1 F (fun c z => by unfold inT; first | omega | (dsimp only at z; omega)) k99_0 (fun k _ _ => congrFun (f2 99 (by first | decide | omega | (dsimp only; omega))) k) (fun j _ => congrFun (f2 101 (by first | decide | omega | (dsimp only; omega))) j)) (G2.fr g2 (f2 7 (by first | decide | omega | (dsimp only; omega))) (by omega) (by omega) (fun k _ _ => congrFun (f2 99 (by first | decide | omega | (dsimp only; omega))) k)) (RFR.fr rf (by omega) (by omega) (f2 96 (by first | decide | omega | (dsimp only; omega))) (f2 98 (by first | decide | omega | (dsimp only; omega)))) ⟨by omega, by omega⟩ (by omega)
  exact hk M2 hR2 ic2 im2 ⟨by unfold CR at cr ⊢; omega, wr2, gr2⟩
set_option maxHeartbeats 4000000 in
set_option maxRecDepth 100000 in
theorem law_c33 (X : Cx) (b L : Nat) (xs : Nat → Int32) (C N : Nat) (hC : C + 0 ≤ 600000) (hN : N + 0 ≤ 7302249) (i : Int) (M : Mm) (hR : Rg M) (ic : IC M) (im : IM M) (crx : CX M) (h0 : 0 ≤ i) (h1 : i + 7 ≤ L) (hL : L ≤ 3584) (hk : ∀ M' : Mm, Rg M' → IC M' → IM M' → CX M' → J X.1 RL cL_law 4 ret (ELW X M' b L xs) C N Zl 1430 [(3, vi i), (2, vr X 97), (1, vr X 0), (0, .ref b)] []) : J X.1 RL cL_law 4 ret (ELW X M b L xs) C N Zl 1348 [(3, vi i), (2, vr X 97), (1, vr X 0), (0, .ref b)] [] := by
  have cr := crx.1
  have wr := crx.2.1
  have gr := crx.2.2
  have bb := ICb ic
  refine j_aload (pc' := 1349) 2 dL_law_1348 rfl rfl ?_
  refine j_aload (pc' := 1350) 3 dL_law_1349 rfl rfl ?_
  refine j_iload_n (pc' := 1351) 0 dL_law_1350 rfl rfl ?_
  refine j_iconst (pc' := 1352) dL_law_1351 rfl ?_
  refine j_iadd (pc' := 1353) dL_law_1352 rfl ?_
  refine w_sld (pc' := 1354) dL_law_1353 rfl (by omega) (by omega) ?_
  obtain ⟨ta, tb, P, Lq, F, Z, tv, pub⟩ := gr.1
  refine w_call hC hN hR (pc' := 1357) (As := [vi (sx xs (i + 1))]) (o := 0) (S := []) dL_law_1354 rfl m_L_155 w_X9_image (c_X9_image_x X M ic (sx xs (i + 1)) (sx_in xs (i + 1)) ta tb (M 99 0) P Lq F Z (M 101) (fun j => M 99 (4 + j)) tv pub) rfl ⟨_, _, _, rfl, rfl, rfl⟩ (Nat.le_of_ble_eq_true rfl) (Nat.le_of_ble_eq_true rfl) rfl (Nat.le_of_ble_eq_true rfl) (fun v M1 hq hR1 => ?_)
  obtain ⟨r1, rfl, ic1, f1, e1_0, e1_1, e1_2, e1_3, e1_4, e1_5, e1_6, e1_7, p1⟩ := hq
  have im1 : IM M1 := IM.fr im f1 (fun c z => by first | omega | (dsimp only at z; omega))
  have fd1 := frD (Fr.tr Fr.rf f1 fi_98)
  have x1 := p1.2
  replace p1 := p1.1
  have wr1 : TR M1 := TR.fr wr (f1 32 (by decide)) (f1 106 (by decide)) (by omega) (by omega) (congrFun (f1 97 (by decide)) 17)
  show J X.1 RL cL_law 4 ret (ELW X M1 b L xs) C N Zl 1357 [(3, vi i), (2, vr X 97), (1, vr X 0), (0, .ref b)] [vi r1]
  refine j_pop (pc' := 1358) dL_law_1357 rfl rfl ?_
  refine j_aload (pc' := 1359) 1 dL_law_1358 rfl rfl ?_
  refine j_aload (pc' := 1360) 3 dL_law_1359 rfl rfl ?_
  refine j_iload_n (pc' := 1361) 0 dL_law_1360 rfl rfl ?_
  refine j_iconst (pc' := 1362) dL_law_1361 rfl ?_
  refine j_iadd (pc' := 1363) dL_law_1362 rfl ?_
  refine w_sld (pc' := 1364) dL_law_1363 rfl (by omega) (by omega) ?_
  refine w_call hC hN hR1 (pc' := 1367) (As := [vi (sx xs (i + 1))]) (o := 97) (S := []) dL_law_1364 rfl m_L_158 w_X10_image (c_X10_image_x X M1 im1 (sx xs (i + 1)) (sx_in xs (i + 1))) rfl ⟨_, _, _, rfl, rfl, rfl⟩ (Nat.le_of_ble_eq_true rfl) (Nat.le_of_ble_eq_true rfl) rfl (Nat.le_of_ble_eq_true rfl) (fun v M2 hq hR2 => ?_)
  obtain ⟨r2, rfl, im2, f2, e2_0, e2_1, e2_2, e2_3, e2_4, e2_5, e2_6, e2_7, e2_8, p2⟩ := hq
  have ic2 : IC M2 := IC.fr ic1 f2 (fun c z => by unfold free isT; first | omega | (dsimp only at z; omega))
  have fd2 := frC (Fr.tr Fr.rf f2 fi_99)
  have x2 := p2.2
  replace p2 := p2.1
  have wr2 : TR M2 := TR.fr wr1 (f2 32 (by decide)) (f2 106 (by decide)) (by omega) (congrFun (f2 0 (by decide)) 12) (by omega)
  show J X.1 RL cL_law 4 ret (ELW X M2 b L xs) C N Zl 1367 [(3, vi i), (2, vr X 97), (1, vr X 0), (0, .ref b)] [vi r2]
  refine j_pop (pc' := 1368) dL_law_1367 rfl rfl ?_
  refine j_goto (tgt := 1430) dL_law_1368 rfl ?_
  have F := Fr.tr (P := fun c => (fun c => (10 ≤ c ∧ c ≤ 27) ∨ c = 29 ∨ c = 0 ∨ c = 96) c ∨ (fun c => c = 97 ∨ c = 98 ∨ c = 100 ∨ c = 102 ∨ c = 103) c) (Fr.tr Fr.rf f1 (fun c z => Or.inl z)) f2 (fun c z => Or.inr z)
  have k0_10 : M2 0 10 = M1 0 10 := congrFun (f2 0 (by first | decide | omega | (dsimp only; omega))) 10
  have k0_11 : M2 0 11 = M1 0 11 := congrFun (f2 0 (by first | decide | omega | (dsimp only; omega))) 11
  have k0_12 : M2 0 12 = M1 0 12 := congrFun (f2 0 (by first | decide | omega | (dsimp only; omega))) 12
  have k0_13 : M2 0 13 = M1 0 13 := congrFun (f2 0 (by first | decide | omega | (dsimp only; omega))) 13
  have k97_1 : M1 97 1 = M 97 1 := congrFun (f1 97 (by first | decide | omega | (dsimp only; omega))) 1
  have k97_10 : M1 97 10 = M 97 10 := congrFun (f1 97 (by first | decide | omega | (dsimp only; omega))) 10
  have k97_17 : M1 97 17 = M 97 17 := congrFun (f1 97 (by first | decide | omega | (dsimp only; omega))) 17
  have k97_33 : M1 97 33 = M 97 33 := congrFun (f1 97 (by first | decide | omega | (dsimp only; omega))) 33
  have k97_44 : M1 97 44 = M 97 44 := congrFun (f1 97 (by first | decide | omega | (dsimp only; omega))) 44
  obtain ⟨g1, g2, g3, g4, rf, ⟨g6a, g6b⟩, g7_⟩ := gr
  have k99_0 : M2 99 0 = M 99 0 := congrFun ((f2 99 (by first | decide | omega | (dsimp only; omega))).trans (f1 99 (by first | decide | omega | (dsimp only; omega)))) 0
  have hrr : r1 = r2 := (by unfold CR at cr; omega)
  have ha_ : -6 ≤ r2 := by unfold CR at cr; omega
  obtain ⟨gg3, gg4⟩ := GR.image ⟨g1, g2, g3, g4, rf, ⟨g6a, g6b⟩, g7_⟩ (by omega) (by omega) (by omega) (fun c hc => f1 c (by first | omega | (dsimp only; omega))) (fun c hc => f2 c (by first | omega | (dsimp only; omega))) x1.1 x2.1 (fun q => by omega) (fun q => by omega) (fun q => by omega) (fun q => by omega)
  have gr2 : GR M2 := ⟨(G1.fr g1 F (fun c z => by unfold inT; first | omega | (dsimp only at z; omega)) k99_0 (fun k _ _ => congrFun ((f2 99 (by first | decide | omega | (dsimp only; omega))).trans (f1 99 (by first | decide | omega | (dsimp only; omega)))) k) (fun j _ => congrFun ((f2 101 (by first | decide | omega | (dsimp only; omega))).trans (f1 101 (by first | decide | omega | (dsimp only; omega)))) j)), (G2.fr g2 ((f2 7 (by first | decide | omega | (dsimp only; omega))).trans (f1 7 (by first | decide | omega | (dsimp only; omega)))) (by omega) (by omega) (fun k _ _ => congrFun ((f2 99 (by first | decide | omega | (dsimp only; omega))).trans (f1 99 (by first | decide | omega | (dsimp only; omega)))) k)), gg3, gg4, (RFR.s2 rf ha_ hrr k0_10 x1.2.1 x2.2.1 (f2 96 (by first | decide | omega | (dsimp only; omega))) x1.2.2 (f1 98 (by first | decide | omega | (dsimp only; omega))) x2.2.2), ⟨by omega, by omega⟩, g7_.fr F (fun c z => by unfold inT; first | omega | (dsimp only at z; omega)) (by omega) ((f2 116 (by first | decide | omega | (dsimp only; omega))).trans (f1 116 (by first | decide | omega | (dsimp only; omega))))⟩
  exact hk M2 hR2 ic2 im2 ⟨by unfold CR at cr ⊢; omega, wr2, gr2⟩
set_option maxHeartbeats 4000000 in
set_option maxRecDepth 100000 in
theorem law_c34 (X : Cx) (b L : Nat) (xs : Nat → Int32) (C N : Nat) (hC : C + 0 ≤ 600000) (hN : N + 0 ≤ 7302249) (i : Int) (M : Mm) (hR : Rg M) (ic : IC M) (im : IM M) (crx : CX M) (h0 : 0 ≤ i) (h1 : i + 7 ≤ L) (hL : L ≤ 3584) (hk : ∀ M' : Mm, Rg M' → IC M' → IM M' → CX M' → J X.1 RL cL_law 4 ret (ELW X M' b L xs) C N Zl 1430 [(3, vi i), (2, vr X 97), (1, vr X 0), (0, .ref b)] []) : J X.1 RL cL_law 4 ret (ELW X M b L xs) C N Zl 1371 [(3, vi i), (2, vr X 97), (1, vr X 0), (0, .ref b)] [] := by
  have cr := crx.1
  have wr := crx.2.1
  have gr := crx.2.2
  have bb := ICb ic
  refine j_aload (pc' := 1372) 2 dL_law_1371 rfl rfl ?_
  refine j_aload (pc' := 1373) 3 dL_law_1372 rfl rfl ?_
  refine j_iload_n (pc' := 1374) 0 dL_law_1373 rfl rfl ?_
  refine j_iconst (pc' := 1375) dL_law_1374 rfl ?_
  refine j_iadd (pc' := 1376) dL_law_1375 rfl ?_
  refine w_sld (pc' := 1377) dL_law_1376 rfl (by omega) (by omega) ?_
  refine w_call hC hN hR (pc' := 1380) (As := [vi (sx xs (i + 1))]) (o := 0) (S := []) dL_law_1377 rfl m_L_159 w_X9_back (c_X9_back_x X M ic (sx xs (i + 1)) (sx_in xs (i + 1)) (M 100 (49 * 0)) (fun j => M 102 (25 * 0 + j)) (fun j => M 100 (49 * 0 + (4 + j))) (fun q => (gr.2.2.1 q).1) (M 100 (49 * 1)) (fun j => M 102 (25 * 1 + j)) (fun j => M 100 (49 * 1 + (4 + j))) (fun q => (gr.2.2.2.1 q).1)) rfl ⟨_, _, _, rfl, rfl, rfl⟩ (Nat.le_of_ble_eq_true rfl) (Nat.le_of_ble_eq_true rfl) rfl (Nat.le_of_ble_eq_true rfl) (fun v M1 hq hR1 => ?_)
  obtain ⟨r1, rfl, ic1, f1, e1_0, e1_1, e1_2, e1_3, e1_4, e1_5, e1_6, e1_7, e1_8, e1_9, e1_10, e1_11, e1_12, e1_13, p1⟩ := hq
  have im1 : IM M1 := IM.fr im f1 (fun c z => by first | omega | (dsimp only at z; omega))
  have fd1 := frD (Fr.tr Fr.rf f1 fi_100)
  have x1 := p1.2
  replace p1 := p1.1
  have wr1 : TR M1 := TR.fr wr (f1 32 (by decide)) (f1 106 (by decide)) (by omega) (by omega) (congrFun (f1 97 (by decide)) 17)
  show J X.1 RL cL_law 4 ret (ELW X M1 b L xs) C N Zl 1380 [(3, vi i), (2, vr X 97), (1, vr X 0), (0, .ref b)] [vi r1]
  refine j_pop (pc' := 1381) dL_law_1380 rfl rfl ?_
  refine j_aload (pc' := 1382) 1 dL_law_1381 rfl rfl ?_
  refine j_aload (pc' := 1383) 3 dL_law_1382 rfl rfl ?_
  refine j_iload_n (pc' := 1384) 0 dL_law_1383 rfl rfl ?_
  refine j_iconst (pc' := 1385) dL_law_1384 rfl ?_
  refine j_iadd (pc' := 1386) dL_law_1385 rfl ?_
  refine w_sld (pc' := 1387) dL_law_1386 rfl (by omega) (by omega) ?_
  refine w_call hC hN hR1 (pc' := 1390) (As := [vi (sx xs (i + 1))]) (o := 97) (S := []) dL_law_1387 rfl m_L_162 w_X10_back (c_X10_back_x X M1 im1 (sx xs (i + 1)) (sx_in xs (i + 1))) rfl ⟨_, _, _, rfl, rfl, rfl⟩ (Nat.le_of_ble_eq_true rfl) (Nat.le_of_ble_eq_true rfl) rfl (Nat.le_of_ble_eq_true rfl) (fun v M2 hq hR2 => ?_)
  obtain ⟨r2, rfl, im2, f2, e2_0, e2_1, e2_2, e2_3, e2_4, e2_5, e2_6, e2_7, e2_8, e2_9, e2_10, e2_11, e2_12, e2_13, e2_14, p2⟩ := hq
  have ic2 : IC M2 := IC.fr ic1 f2 (fun c z => by unfold free isT; first | omega | (dsimp only at z; omega))
  have fd2 := frC (Fr.tr Fr.rf f2 fi_101)
  have x2 := p2.2
  replace p2 := p2.1
  have wr2 : TR M2 := TR.fr wr1 (f2 32 (by decide)) (f2 106 (by decide)) (by omega) (congrFun (f2 0 (by decide)) 12) (by omega)
  show J X.1 RL cL_law 4 ret (ELW X M2 b L xs) C N Zl 1390 [(3, vi i), (2, vr X 97), (1, vr X 0), (0, .ref b)] [vi r2]
  refine j_pop (pc' := 1391) dL_law_1390 rfl rfl ?_
  refine j_goto (tgt := 1430) dL_law_1391 rfl ?_
  have ha_ : -6 ≤ r2 := by unfold CR at cr; clear p1; omega
  have dt := det_back p1 p2 (by unfold CR at cr; omega) (by unfold CR at cr; omega) (by unfold CR at cr; omega) (by unfold CR at cr; omega) (by unfold CR at cr; omega) (by unfold CR at cr; omega) (by unfold CR at cr; omega) (by unfold CR at cr; omega) (by unfold CR at cr; omega) (by unfold CR at cr; omega) (by unfold CR at cr; omega) (by unfold CR at cr; omega) (by unfold CR at cr; omega) (by unfold CR at cr; omega)
  have c0_ := p1.2.2.2.1
  have c1_ := p1.2.2.2.2
  clear p1 p2
  have F := Fr.tr (P := fun c => (fun c => 1 ≤ c ∧ c ≤ 9 ∨ c = 0 ∨ c = 96) c ∨ (fun c => c = 97 ∨ c = 98 ∨ c = 99 ∨ c = 101) c) (Fr.tr Fr.rf f1 (fun c z => Or.inl z)) f2 (fun c z => Or.inr z)
  have k0_10 : M2 0 10 = M1 0 10 := congrFun (f2 0 (by first | decide | omega | (dsimp only; omega))) 10
  have k0_11 : M2 0 11 = M1 0 11 := congrFun (f2 0 (by first | decide | omega | (dsimp only; omega))) 11
  have k0_12 : M2 0 12 = M1 0 12 := congrFun (f2 0 (by first | decide | omega | (dsimp only; omega))) 12
  have k0_13 : M2 0 13 = M1 0 13 := congrFun (f2 0 (by first | decide | omega | (dsimp only; omega))) 13
  have k97_1 : M1 97 1 = M 97 1 := congrFun (f1 97 (by first | decide | omega | (dsimp only; omega))) 1
  have k97_10 : M1 97 10 = M 97 10 := congrFun (f1 97 (by first | decide | omega | (dsimp only; omega))) 10
  have k97_17 : M1 97 17 = M 97 17 := congrFun (f1 97 (by first | decide | omega | (dsimp only; omega))) 17
  have k97_33 : M1 97 33 = M 97 33 := congrFun (f1 97 (by first | decide | omega | (dsimp only; omega))) 33
  have k97_44 : M1 97 44 = M 97 44 := congrFun (f1 97 (by first | decide | omega | (dsimp only; omega))) 44
  obtain ⟨g1, g2, g3, g4, rf, ⟨g6a, g6b⟩, g7_⟩ := gr
  have k12 : M2 1 2 = M1 1 2 := congrFun (f2 1 (by first | decide | omega | (dsimp only; omega))) 2
  have hrr : r1 = r2 := dt.1
  obtain ⟨gg1, gg2⟩ := GR.back ⟨g1, g2, g3, g4, rf, ⟨g6a, g6b⟩, g7_⟩ (by unfold CR at cr; omega) (by omega) (by omega) (by omega) (fun c hc => f1 c (by first | omega | (dsimp only; omega))) (fun c hc => f2 c (by first | omega | (dsimp only; omega))) x1.1 x2.1 (fun q1 q2 => k12.trans (c0_ q1 q2).2.2.1) (fun q1 q2 => k12.trans (c1_ q1 q2).2.2.1) (fun q => k12.trans (congrFun (x1.1.2.2 q 1 (by decide) (by decide)) 2))
  clear c0_ c1_
  have gr2 : GR M2 := GR.k ⟨g1, g2, g3, g4, rf, ⟨g6a, g6b⟩, g7_⟩ F (fun c z => by unfold inT; first | omega | (dsimp only at z; omega)) gg1 gg2 (RFR.s2 rf ha_ hrr k0_10 x1.2.1 x2.2.1 (f2 96 (by first | decide | omega | (dsimp only; omega))) x1.2.2 (f1 98 (by first | decide | omega | (dsimp only; omega))) x2.2.2) ⟨by omega, by omega⟩ (by omega)
  exact hk M2 hR2 ic2 im2 ⟨by unfold CR at cr ⊢; omega, wr2, gr2⟩
set_option maxHeartbeats 4000000 in
set_option maxRecDepth 100000 in
theorem law_c35 (X : Cx) (b L : Nat) (xs : Nat → Int32) (C N : Nat) (hC : C + 0 ≤ 600000) (hN : N + 0 ≤ 7302249) (i : Int) (M : Mm) (hR : Rg M) (ic : IC M) (im : IM M) (crx : CX M) (h0 : 0 ≤ i) (h1 : i + 7 ≤ L) (hL : L ≤ 3584) (hk : ∀ M' : Mm, Rg M' → IC M' → IM M' → CX M' → J X.1 RL cL_law 4 ret (ELW X M' b L xs) C N Zl 1430 [(3, vi i), (2, vr X 97), (1, vr X 0), (0, .ref b)] []) : J X.1 RL cL_law 4 ret (ELW X M b L xs) C N Zl 1394 [(3, vi i), (2, vr X 97), (1, vr X 0), (0, .ref b)] [] := by
  have cr := crx.1
  have wr := crx.2.1
  have gr := crx.2.2
  have bb := ICb ic
  refine j_aload (pc' := 1395) 2 dL_law_1394 rfl rfl ?_
  refine j_aload (pc' := 1396) 3 dL_law_1395 rfl rfl ?_
  refine j_iload_n (pc' := 1397) 0 dL_law_1396 rfl rfl ?_
  refine j_iconst (pc' := 1398) dL_law_1397 rfl ?_
  refine j_iadd (pc' := 1399) dL_law_1398 rfl ?_
  refine w_sld (pc' := 1400) dL_law_1399 rfl (by omega) (by omega) ?_
  refine w_call hC hN hR (pc' := 1403) (As := [vi (sx xs (i + 1))]) (o := 0) (S := []) dL_law_1400 rfl m_L_163 w_X9_count (c_X9_count_x X M ic (sx xs (i + 1)) (sx_in xs (i + 1))) rfl ⟨_, _, _, rfl, rfl, rfl⟩ (Nat.le_of_ble_eq_true rfl) (Nat.le_of_ble_eq_true rfl) rfl (Nat.le_of_ble_eq_true rfl) (fun v M1 hq hR1 => ?_)
  obtain ⟨r1, rfl, e1, p1⟩ := hq
  rw [e1]
  show J X.1 RL cL_law 4 ret (ELW X M b L xs) C N Zl 1403 [(3, vi i), (2, vr X 97), (1, vr X 0), (0, .ref b)] [vi r1]
  refine j_pop (pc' := 1404) dL_law_1403 rfl rfl ?_
  refine j_aload (pc' := 1405) 1 dL_law_1404 rfl rfl ?_
  refine j_aload (pc' := 1406) 3 dL_law_1405 rfl rfl ?_
  refine j_iload_n (pc' := 1407) 0 dL_law_1406 rfl rfl ?_
  refine j_iconst (pc' := 1408) dL_law_1407 rfl ?_
  refine j_iadd (pc' := 1409) dL_law_1408 rfl ?_
  refine w_sld (pc' := 1410) dL_law_1409 rfl (by omega) (by omega) ?_
  refine w_call hC hN hR (pc' := 1413) (As := [vi (sx xs (i + 1))]) (o := 97) (S := []) dL_law_1410 rfl m_L_166 w_X10_count (c_X10_count_x X M im (sx xs (i + 1)) (sx_in xs (i + 1))) rfl ⟨_, _, _, rfl, rfl, rfl⟩ (Nat.le_of_ble_eq_true rfl) (Nat.le_of_ble_eq_true rfl) rfl (Nat.le_of_ble_eq_true rfl) (fun v M2 hq hR2 => ?_)
  obtain ⟨r2, rfl, im2, f2, e2_0, e2_1, e2_2, e2_3, e2_4, e2_5, e2_6, e2_7, e2_8, e2_9, e2_10, e2_11, e2_12, e2_13, e2_14, e2_15, e2_16, e2_17, e2_18, e2_19, p2⟩ := hq
  have ic2 : IC M2 := IC.fr ic f2 (fun c z => by unfold free isT; first | omega | (dsimp only at z; omega))
  have fd2 := frC (Fr.tr Fr.rf f2 fi_78)
  have wr2 : TR M2 := TR.fr wr (f2 32 (by decide)) (f2 106 (by decide)) (by omega) (congrFun (f2 0 (by decide)) 12) (by omega)
  show J X.1 RL cL_law 4 ret (ELW X M2 b L xs) C N Zl 1413 [(3, vi i), (2, vr X 97), (1, vr X 0), (0, .ref b)] [vi r2]
  refine j_pop (pc' := 1414) dL_law_1413 rfl rfl ?_
  refine j_goto (tgt := 1430) dL_law_1414 rfl ?_
  have F := f2
  have k0_10 : M2 0 10 = M 0 10 := congrFun (f2 0 (by first | decide | omega | (dsimp only; omega))) 10
  have k0_11 : M2 0 11 = M 0 11 := congrFun (f2 0 (by first | decide | omega | (dsimp only; omega))) 11
  have k0_12 : M2 0 12 = M 0 12 := congrFun (f2 0 (by first | decide | omega | (dsimp only; omega))) 12
  have k0_13 : M2 0 13 = M 0 13 := congrFun (f2 0 (by first | decide | omega | (dsimp only; omega))) 13
  obtain ⟨g1, g2, g3, g4, rf, ⟨g6a, g6b⟩, g7_⟩ := gr
  have k99_0 : M2 99 0 = M 99 0 := congrFun (f2 99 (by first | decide | omega | (dsimp only; omega))) 0
  have hrr : r1 = r2 := GR.count rf g2 (by unfold CR at cr; omega) (by unfold CR at cr; omega) p1 p2
  have gr2 : GR M2 := GR.k ⟨g1, g2, g3, g4, rf, ⟨g6a, g6b⟩, g7_⟩ F (fun c z => by unfold inT; first | omega | (dsimp only at z; omega)) (G1.fr g1 F (fun c z => by unfold inT; first | omega | (dsimp only at z; omega)) k99_0 (fun k _ _ => congrFun (f2 99 (by first | decide | omega | (dsimp only; omega))) k) (fun j _ => congrFun (f2 101 (by first | decide | omega | (dsimp only; omega))) j)) (G2.fr g2 (f2 7 (by first | decide | omega | (dsimp only; omega))) (by omega) (by omega) (fun k _ _ => congrFun (f2 99 (by first | decide | omega | (dsimp only; omega))) k)) (RFR.fr rf (by omega) (by omega) (f2 96 (by first | decide | omega | (dsimp only; omega))) (f2 98 (by first | decide | omega | (dsimp only; omega)))) ⟨by omega, by omega⟩ (by omega)
  exact hk M2 hR2 ic2 im2 ⟨by unfold CR at cr ⊢; omega, wr2, gr2⟩
set_option maxHeartbeats 4000000 in
set_option maxRecDepth 100000 in
theorem law_c36 (X : Cx) (b L : Nat) (xs : Nat → Int32) (C N : Nat) (hC : C + 0 ≤ 600000) (hN : N + 0 ≤ 7302249) (i : Int) (M : Mm) (hR : Rg M) (ic : IC M) (im : IM M) (crx : CX M) (h0 : 0 ≤ i) (h1 : i + 7 ≤ L) (hL : L ≤ 3584) (hk : ∀ M' : Mm, Rg M' → IC M' → IM M' → CX M' → J X.1 RL cL_law 4 ret (ELW X M' b L xs) C N Zl 1430 [(3, vi i), (2, vr X 97), (1, vr X 0), (0, .ref b)] []) : J X.1 RL cL_law 4 ret (ELW X M b L xs) C N Zl 1417 [(3, vi i), (2, vr X 97), (1, vr X 0), (0, .ref b)] [] := by
  have cr := crx.1
  have wr := crx.2.1
  have gr := crx.2.2
  have bb := ICb ic
  refine j_aload (pc' := 1418) 2 dL_law_1417 rfl rfl ?_
  refine w_call hC hN hR (pc' := 1421) (As := []) (o := 0) (S := []) dL_law_1418 rfl m_L_167 w_X9_status (c_X9_status_x X M ic) rfl ⟨_, _, _, rfl, rfl, rfl⟩ (Nat.le_of_ble_eq_true rfl) (Nat.le_of_ble_eq_true rfl) rfl (Nat.le_of_ble_eq_true rfl) (fun v M1 hq hR1 => ?_)
  obtain ⟨r1, rfl, e1, p1⟩ := hq
  rw [e1]
  show J X.1 RL cL_law 4 ret (ELW X M b L xs) C N Zl 1421 [(3, vi i), (2, vr X 97), (1, vr X 0), (0, .ref b)] [vi r1]
  refine j_pop (pc' := 1422) dL_law_1421 rfl rfl ?_
  refine j_aload (pc' := 1423) 1 dL_law_1422 rfl rfl ?_
  refine w_call hC hN hR (pc' := 1426) (As := []) (o := 97) (S := []) dL_law_1423 rfl m_L_170 w_X10_status (c_X10_status_x X M im) rfl ⟨_, _, _, rfl, rfl, rfl⟩ (Nat.le_of_ble_eq_true rfl) (Nat.le_of_ble_eq_true rfl) rfl (Nat.le_of_ble_eq_true rfl) (fun v M2 hq hR2 => ?_)
  obtain ⟨r2, rfl, im2, f2, e2_0, e2_1, e2_2, e2_3, e2_4, e2_5, e2_6, e2_7, e2_8, e2_9, e2_10, e2_11, e2_12, e2_13, e2_14, e2_15, e2_16, e2_17, e2_18, e2_19, p2⟩ := hq
  have ic2 : IC M2 := IC.fr ic f2 (fun c z => by unfold free isT; first | omega | (dsimp only at z; omega))
  have fd2 := frC (Fr.tr Fr.rf f2 fi_78)
  have wr2 : TR M2 := TR.fr wr (f2 32 (by decide)) (f2 106 (by decide)) (by omega) (congrFun (f2 0 (by decide)) 12) (by omega)
  show J X.1 RL cL_law 4 ret (ELW X M2 b L xs) C N Zl 1426 [(3, vi i), (2, vr X 97), (1, vr X 0), (0, .ref b)] [vi r2]
  refine j_pop (pc' := 1427) dL_law_1426 rfl rfl ?_
  refine j_goto (tgt := 1430) dL_law_1427 rfl ?_
  have F := f2
  have k0_10 : M2 0 10 = M 0 10 := congrFun (f2 0 (by first | decide | omega | (dsimp only; omega))) 10
  have k0_11 : M2 0 11 = M 0 11 := congrFun (f2 0 (by first | decide | omega | (dsimp only; omega))) 11
  have k0_12 : M2 0 12 = M 0 12 := congrFun (f2 0 (by first | decide | omega | (dsimp only; omega))) 12
  have k0_13 : M2 0 13 = M 0 13 := congrFun (f2 0 (by first | decide | omega | (dsimp only; omega))) 13
  obtain ⟨g1, g2, g3, g4, rf, ⟨g6a, g6b⟩, g7_⟩ := gr
  have k99_0 : M2 99 0 = M 99 0 := congrFun (f2 99 (by first | decide | omega | (dsimp only; omega))) 0
  have hrr : r1 = r2 := p1.trans (rf.1.trans p2.symm)
  have gr2 : GR M2 := GR.k ⟨g1, g2, g3, g4, rf, ⟨g6a, g6b⟩, g7_⟩ F (fun c z => by unfold inT; first | omega | (dsimp only at z; omega)) (G1.fr g1 F (fun c z => by unfold inT; first | omega | (dsimp only at z; omega)) k99_0 (fun k _ _ => congrFun (f2 99 (by first | decide | omega | (dsimp only; omega))) k) (fun j _ => congrFun (f2 101 (by first | decide | omega | (dsimp only; omega))) j)) (G2.fr g2 (f2 7 (by first | decide | omega | (dsimp only; omega))) (by omega) (by omega) (fun k _ _ => congrFun (f2 99 (by first | decide | omega | (dsimp only; omega))) k)) (RFR.fr rf (by omega) (by omega) (f2 96 (by first | decide | omega | (dsimp only; omega))) (f2 98 (by first | decide | omega | (dsimp only; omega)))) ⟨by omega, by omega⟩ (by omega)
  exact hk M2 hR2 ic2 im2 ⟨by unfold CR at cr ⊢; omega, wr2, gr2⟩
