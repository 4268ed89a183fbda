set_option maxHeartbeats 4000000 in
set_option maxRecDepth 100000 in
theorem law_c19 (X : Cx) (b L : Nat) (xs : Nat → Int32) (C N : Nat) (hC : C + 0 ≤ 600000) (hN : N + 0 ≤ 7302249) (i : Int) (M : Mm) (hR : Rg M) (ic : IC M) (im : IM M) (crx : CX M) (h0 : 0 ≤ i) (h1 : i + 7 ≤ L) (hL : L ≤ 3584) (hk : ∀ M' : Mm, Rg M' → IC M' → IM M' → CX M' → J X.1 RL cL_law 4 ret (ELW X M' b L xs) C N Zl 1429 [(3, vi i), (2, vr X 97), (1, vr X 0), (0, .ref b)] []) : J X.1 RL cL_law 4 ret (ELW X M b L xs) C N Zl 763 [(3, vi i), (2, vr X 97), (1, vr X 0), (0, .ref b)] [] := by
  have cr := crx.1
  have wr := crx.2.1
  have gr := crx.2.2
  have bb := ICb ic
  refine j_aload (pc' := 764) 2 dL_law_763 rfl rfl ?_
  refine j_aload (pc' := 765) 3 dL_law_764 rfl rfl ?_
  refine j_iload_n (pc' := 766) 0 dL_law_765 rfl rfl ?_
  refine j_iconst (pc' := 767) dL_law_766 rfl ?_
  refine j_iadd (pc' := 768) dL_law_767 rfl ?_
  refine w_sld (pc' := 769) dL_law_768 rfl (by omega) (by omega) ?_
  refine w_call hC hN hR (pc' := 772) (As := [vi (sx xs (i + 1))]) (o := 0) (S := []) dL_law_769 rfl m_L_97 w_X9_size (c_X9_size_x X M ic (sx xs (i + 1)) (sx_in xs (i + 1))) rfl ⟨_, _, _, rfl, rfl, rfl⟩ (Nat.le_of_ble_eq_true rfl) (Nat.le_of_ble_eq_true rfl) rfl (Nat.le_of_ble_eq_true rfl) (fun v M1 hq hR1 => ?_)
  obtain ⟨r1, rfl, ic1, f1, e1_0, e1_1, e1_2, e1_3, e1_4, e1_5, e1_6, e1_7, e1_8, e1_9, e1_10, e1_11, e1_12, e1_13, e1_14, e1_15, e1_16, p1⟩ := hq
  have im1 : IM M1 := IM.fr im f1 (fun c z => by first | omega | (dsimp only at z; omega))
  have fd1 := frD (Fr.tr Fr.rf f1 fi_87)
  have wr1 : TR M1 := TR.fr wr (f1 32 (by decide)) (f1 106 (by decide)) (by omega) (by omega) (congrFun (f1 97 (by decide)) 17)
  show J X.1 RL cL_law 4 ret (ELW X M1 b L xs) C N Zl 772 [(3, vi i), (2, vr X 97), (1, vr X 0), (0, .ref b)] [vi r1]
  refine j_pop (pc' := 773) dL_law_772 rfl rfl ?_
  refine j_aload (pc' := 774) 1 dL_law_773 rfl rfl ?_
  refine j_aload (pc' := 775) 3 dL_law_774 rfl rfl ?_
  refine j_iload_n (pc' := 776) 0 dL_law_775 rfl rfl ?_
  refine j_iconst (pc' := 777) dL_law_776 rfl ?_
  refine j_iadd (pc' := 778) dL_law_777 rfl ?_
  refine w_sld (pc' := 779) dL_law_778 rfl (by omega) (by omega) ?_
  refine w_call hC hN hR1 (pc' := 782) (As := [vi (sx xs (i + 1))]) (o := 97) (S := []) dL_law_779 rfl m_L_100 w_X10_size (c_X10_size_x X M1 im1 (sx xs (i + 1)) (sx_in xs (i + 1))) rfl ⟨_, _, _, rfl, rfl, rfl⟩ (Nat.le_of_ble_eq_true rfl) (Nat.le_of_ble_eq_true rfl) rfl (Nat.le_of_ble_eq_true rfl) (fun v M2 hq hR2 => ?_)
  obtain ⟨r2, rfl, im2, f2, e2_0, e2_1, e2_2, e2_3, e2_4, e2_5, e2_6, e2_7, e2_8, e2_9, e2_10, e2_11, e2_12, e2_13, e2_14, e2_15, e2_16, e2_17, p2⟩ := hq
  have ic2 : IC M2 := IC.fr ic1 f2 (fun c z => by unfold free isT; first | omega | (dsimp only at z; omega))
  have fd2 := frC (Fr.tr Fr.rf f2 fi_77)
  have x2 := p2.2
  replace p2 := p2.1
  have wr2 : TR M2 := TR.fr wr1 (f2 32 (by decide)) (f2 106 (by decide)) (by omega) (congrFun (f2 0 (by decide)) 12) (by omega)
  show J X.1 RL cL_law 4 ret (ELW X M2 b L xs) C N Zl 782 [(3, vi i), (2, vr X 97), (1, vr X 0), (0, .ref b)] [vi r2]
  refine j_pop (pc' := 783) dL_law_782 rfl rfl ?_
  refine j_goto (tgt := 1429) dL_law_783 rfl ?_
  have F := Fr.tr (P := fun c => (fun c => c = 1 ∨ c = 7 ∨ c = 0 ∨ c = 96) c ∨ (fun c => c = 97 ∨ c = 98 ∨ c = 99) c) (Fr.tr Fr.rf f1 (fun c z => Or.inl z)) f2 (fun c z => Or.inr z)
  have k0_10 : M2 0 10 = M1 0 10 := congrFun (f2 0 (by first | decide | omega | (dsimp only; omega))) 10
  have k0_11 : M2 0 11 = M1 0 11 := congrFun (f2 0 (by first | decide | omega | (dsimp only; omega))) 11
  have k0_12 : M2 0 12 = M1 0 12 := congrFun (f2 0 (by first | decide | omega | (dsimp only; omega))) 12
  have k0_13 : M2 0 13 = M1 0 13 := congrFun (f2 0 (by first | decide | omega | (dsimp only; omega))) 13
  have k97_1 : M1 97 1 = M 97 1 := congrFun (f1 97 (by first | decide | omega | (dsimp only; omega))) 1
  have k97_10 : M1 97 10 = M 97 10 := congrFun (f1 97 (by first | decide | omega | (dsimp only; omega))) 10
  have k97_17 : M1 97 17 = M 97 17 := congrFun (f1 97 (by first | decide | omega | (dsimp only; omega))) 17
  have k97_33 : M1 97 33 = M 97 33 := congrFun (f1 97 (by first | decide | omega | (dsimp only; omega))) 33
  have k97_44 : M1 97 44 = M 97 44 := congrFun (f1 97 (by first | decide | omega | (dsimp only; omega))) 44
  obtain ⟨g1, g2, g3, g4, rf, ⟨g6a, g6b⟩, g7_⟩ := gr
  have k99_0 : M2 99 0 = M 99 0 := by omega
  obtain ⟨p1, x1⟩ := p1
  have k99_1 : 0 ≤ M1 99 1 := by unfold CR at cr; clear p1 p2; omega
  have hrr : r1 = r2 := (by unfold CR at cr; omega)
  have ha_ : -6 ≤ r2 := by unfold CR at cr; omega
  have gr2 : GR M2 := GR.k ⟨g1, g2, g3, g4, rf, ⟨g6a, g6b⟩, g7_⟩ F (fun c z => by unfold inT; first | omega | (dsimp only at z; omega)) (G1.fr g1 F (fun c z => by unfold inT; first | omega | (dsimp only at z; omega)) k99_0 (fun k h1 h2 => (x2.1 k h1 (by omega) (by omega)).trans (congrFun (f1 99 (by first | decide | omega | (dsimp only; omega))) k)) (fun j _ => congrFun ((f2 101 (by first | decide | omega | (dsimp only; omega))).trans (f1 101 (by first | decide | omega | (dsimp only; omega)))) j)) (GR.size g2 (by omega) (by unfold CR at cr; omega) (f1 99 (by first | decide | omega | (dsimp only; omega))) (f2 7 (by first | decide | omega | (dsimp only; omega))) (by omega) p1 x1.1.1 x1.1.2 x2.1 x2.2.1) (RFR.s2 rf ha_ hrr k0_10 x1.2.1 x2.2.2.1 (f2 96 (by first | decide | omega | (dsimp only; omega))) x1.2.2 (f1 98 (by first | decide | omega | (dsimp only; omega))) x2.2.2.2) ⟨by omega, by omega⟩ (by omega)
  exact hk M2 hR2 ic2 im2 ⟨by unfold CR at cr ⊢; omega, wr2, gr2⟩
set_option maxHeartbeats 4000000 in
set_option maxRecDepth 100000 in
theorem law_c20 (X : Cx) (b L : Nat) (xs : Nat → Int32) (C N : Nat) (hC : C + 0 ≤ 600000) (hN : N + 0 ≤ 7302249) (i : Int) (M : Mm) (hR : Rg M) (ic : IC M) (im : IM M) (crx : CX M) (h0 : 0 ≤ i) (h1 : i + 7 ≤ L) (hL : L ≤ 3584) (hk : ∀ M' : Mm, Rg M' → IC M' → IM M' → CX M' → J X.1 RL cL_law 4 ret (ELW X M' b L xs) C N Zl 1429 [(3, vi i), (2, vr X 97), (1, vr X 0), (0, .ref b)] []) : J X.1 RL cL_law 4 ret (ELW X M b L xs) C N Zl 786 [(3, vi i), (2, vr X 97), (1, vr X 0), (0, .ref b)] [] := by
  have cr := crx.1
  have wr := crx.2.1
  have gr := crx.2.2
  have bb := ICb ic
  refine j_aload (pc' := 787) 2 dL_law_786 rfl rfl ?_
  refine w_call hC hN hR (pc' := 790) (As := []) (o := 0) (S := []) dL_law_787 rfl m_L_101 w_X9_wash (c_X9_wash X M ic) rfl ⟨_, _, _, rfl, rfl, rfl⟩ (Nat.le_of_ble_eq_true rfl) (Nat.le_of_ble_eq_true rfl) rfl (Nat.le_of_ble_eq_true rfl) (fun v M1 hq hR1 => ?_)
  obtain ⟨r1, rfl, ic1, f1, e1_0, e1_1, e1_2, e1_3, e1_4, e1_5, e1_6, e1_7, e1_8, e1_9, e1_10, e1_11, e1_12, e1_13, e1_14, e1_15, e1_16, p1⟩ := hq
  have im1 : IM M1 := IM.fr im f1 (fun c z => by first | omega | (dsimp only at z; omega))
  have fd1 := frD (Fr.tr Fr.rf f1 fi_88)
  have wr1 : TR M1 := TR.fr wr (f1 32 (by decide)) (f1 106 (by decide)) (by omega) (by omega) (congrFun (f1 97 (by decide)) 17)
  show J X.1 RL cL_law 4 ret (ELW X M1 b L xs) C N Zl 790 [(3, vi i), (2, vr X 97), (1, vr X 0), (0, .ref b)] [vi r1]
  refine j_pop (pc' := 791) dL_law_790 rfl rfl ?_
  refine j_aload (pc' := 792) 1 dL_law_791 rfl rfl ?_
  refine w_call hC hN hR1 (pc' := 795) (As := []) (o := 97) (S := []) dL_law_792 rfl m_L_104 w_X10_wash (c_X10_wash_x X M1 im1) rfl ⟨_, _, _, rfl, rfl, rfl⟩ (Nat.le_of_ble_eq_true rfl) (Nat.le_of_ble_eq_true rfl) rfl (Nat.le_of_ble_eq_true rfl) (fun v M2 hq hR2 => ?_)
  obtain ⟨r2, rfl, im2, f2, e2_0, e2_1, e2_2, e2_3, e2_4, e2_5, e2_6, e2_7, e2_8, e2_9, e2_10, e2_11, e2_12, e2_13, e2_14, e2_15, e2_16, e2_17, p2⟩ := hq
  have ic2 : IC M2 := IC.fr ic1 f2 (fun c z => by unfold free isT; first | omega | (dsimp only at z; omega))
  have fd2 := frC (Fr.tr Fr.rf f2 fi_89)
  have x2 := p2.2
  replace p2 := p2.1
  have wr2 : TR M2 := TR.fr wr1 (f2 32 (by decide)) (f2 106 (by decide)) (by omega) (congrFun (f2 0 (by decide)) 12) (by omega)
  show J X.1 RL cL_law 4 ret (ELW X M2 b L xs) C N Zl 795 [(3, vi i), (2, vr X 97), (1, vr X 0), (0, .ref b)] [vi r2]
  refine j_pop (pc' := 796) dL_law_795 rfl rfl ?_
  refine j_goto (tgt := 1429) dL_law_796 rfl ?_
  have F := Fr.tr (P := fun c => (fun c => c = 1) c ∨ (fun c => c = 97 ∨ c = 99) c) (Fr.tr Fr.rf f1 (fun c z => Or.inl z)) f2 (fun c z => Or.inr z)
  have k0_10 : M2 0 10 = M1 0 10 := congrFun (f2 0 (by first | decide | omega | (dsimp only; omega))) 10
  have k0_11 : M2 0 11 = M1 0 11 := congrFun (f2 0 (by first | decide | omega | (dsimp only; omega))) 11
  have k0_12 : M2 0 12 = M1 0 12 := congrFun (f2 0 (by first | decide | omega | (dsimp only; omega))) 12
  have k0_13 : M2 0 13 = M1 0 13 := congrFun (f2 0 (by first | decide | omega | (dsimp only; omega))) 13
  have k97_1 : M1 97 1 = M 97 1 := congrFun (f1 97 (by first | decide | omega | (dsimp only; omega))) 1
  have k97_10 : M1 97 10 = M 97 10 := congrFun (f1 97 (by first | decide | omega | (dsimp only; omega))) 10
  have k97_17 : M1 97 17 = M 97 17 := congrFun (f1 97 (by first | decide | omega | (dsimp only; omega))) 17
  have k97_33 : M1 97 33 = M 97 33 := congrFun (f1 97 (by first | decide | omega | (dsimp only; omega))) 33
  have k97_44 : M1 97 44 = M 97 44 := congrFun (f1 97 (by first | decide | omega | (dsimp only; omega))) 44
  obtain ⟨g1, g2, g3, g4, rf, ⟨g6a, g6b⟩, g7_⟩ := gr
  have k99_0 : M2 99 0 = M 99 0 := by omega
  have gr2 : GR M2 := GR.k ⟨g1, g2, g3, g4, rf, ⟨g6a, g6b⟩, g7_⟩ F (fun c z => by unfold inT; first | omega | (dsimp only at z; omega)) (G1.fr g1 F (fun c z => by unfold inT; first | omega | (dsimp only at z; omega)) k99_0 (fun k h1 h2 => (x2 k h1 (by omega)).trans (congrFun (f1 99 (by first | decide | omega | (dsimp only; omega))) k)) (fun j _ => congrFun ((f2 101 (by first | decide | omega | (dsimp only; omega))).trans (f1 101 (by first | decide | omega | (dsimp only; omega)))) j)) (G2.zero (by omega)) (RFR.fr rf (by omega) (by omega) ((f2 96 (by first | decide | omega | (dsimp only; omega))).trans (f1 96 (by first | decide | omega | (dsimp only; omega)))) ((f2 98 (by first | decide | omega | (dsimp only; omega))).trans (f1 98 (by first | decide | omega | (dsimp only; omega))))) ⟨by omega, by omega⟩ (by omega)
  exact hk M2 hR2 ic2 im2 ⟨by unfold CR at cr ⊢; omega, wr2, gr2⟩
set_option maxHeartbeats 4000000 in
set_option maxRecDepth 100000 in
theorem law_c21 (X : Cx) (b L : Nat) (xs : Nat → Int32) (C N : Nat) (hC : C + 0 ≤ 600000) (hN : N + 0 ≤ 7302249) (i : Int) (M : Mm) (hR : Rg M) (ic : IC M) (im : IM M) (crx : CX M) (h0 : 0 ≤ i) (h1 : i + 7 ≤ L) (hL : L ≤ 3584) (hk : ∀ M' : Mm, Rg M' → IC M' → IM M' → CX M' → J X.1 RL cL_law 4 ret (ELW X M' b L xs) C N Zl 1429 [(3, vi i), (2, vr X 97), (1, vr X 0), (0, .ref b)] []) : J X.1 RL cL_law 4 ret (ELW X M b L xs) C N Zl 799 [(3, vi i), (2, vr X 97), (1, vr X 0), (0, .ref b)] [] := by
  have cr := crx.1
  have wr := crx.2.1
  have gr := crx.2.2
  have bb := ICb ic
  refine j_aload (pc' := 800) 2 dL_law_799 rfl rfl ?_
  refine j_aload (pc' := 801) 3 dL_law_800 rfl rfl ?_
  refine j_iload_n (pc' := 802) 0 dL_law_801 rfl rfl ?_
  refine j_iconst (pc' := 803) dL_law_802 rfl ?_
  refine j_iadd (pc' := 804) dL_law_803 rfl ?_
  refine w_sld (pc' := 805) dL_law_804 rfl (by omega) (by omega) ?_
  refine j_aload (pc' := 806) 3 dL_law_805 rfl rfl ?_
  refine j_iload_n (pc' := 807) 0 dL_law_806 rfl rfl ?_
  refine j_iconst (pc' := 808) dL_law_807 rfl ?_
  refine j_iadd (pc' := 809) dL_law_808 rfl ?_
  refine w_sld (pc' := 810) dL_law_809 rfl (by omega) (by omega) ?_
  refine j_aload (pc' := 811) 3 dL_law_810 rfl rfl ?_
  refine j_iload_n (pc' := 812) 0 dL_law_811 rfl rfl ?_
  refine j_iconst (pc' := 813) dL_law_812 rfl ?_
  refine j_iadd (pc' := 814) dL_law_813 rfl ?_
  refine w_sld (pc' := 815) dL_law_814 rfl (by omega) (by omega) ?_
  refine j_aload (pc' := 816) 3 dL_law_815 rfl rfl ?_
  refine j_iload_n (pc' := 817) 0 dL_law_816 rfl rfl ?_
  refine j_iconst (pc' := 818) dL_law_817 rfl ?_
  refine j_iadd (pc' := 819) dL_law_818 rfl ?_
  refine w_sld (pc' := 820) dL_law_819 rfl (by omega) (by omega) ?_
  refine j_aload (pc' := 821) 3 dL_law_820 rfl rfl ?_
  refine j_iload_n (pc' := 822) 0 dL_law_821 rfl rfl ?_
  refine j_iconst (pc' := 823) dL_law_822 rfl ?_
  refine j_iadd (pc' := 824) dL_law_823 rfl ?_
  refine w_sld (pc' := 825) dL_law_824 rfl (by omega) (by omega) ?_
  refine j_aload (pc' := 826) 3 dL_law_825 rfl rfl ?_
  refine j_iload_n (pc' := 827) 0 dL_law_826 rfl rfl ?_
  refine j_bipush (pc' := 829) (v := 6) dL_law_827 rfl (by decide) ?_
  refine j_iadd (pc' := 830) dL_law_829 rfl ?_
  refine w_sld (pc' := 831) dL_law_830 rfl (by omega) (by omega) ?_
  refine w_call hC hN hR (pc' := 834) (As := [vi (sx xs (i + 1)), vi (sx xs (i + 2)), vi (sx xs (i + 3)), vi (sx xs (i + 4)), vi (sx xs (i + 5)), vi (sx xs (i + 6))]) (o := 0) (S := []) dL_law_831 rfl m_L_105 w_X9_reach (c_X9_reach X M ic (sx xs (i + 1)) (sx_in xs (i + 1)) (sx xs (i + 2)) (sx_in xs (i + 2)) (sx xs (i + 3)) (sx_in xs (i + 3)) (sx xs (i + 4)) (sx_in xs (i + 4)) (sx xs (i + 5)) (sx_in xs (i + 5)) (sx xs (i + 6)) (sx_in xs (i + 6))) rfl ⟨_, _, _, rfl, rfl, rfl⟩ (Nat.le_of_ble_eq_true rfl) (Nat.le_of_ble_eq_true rfl) rfl (Nat.le_of_ble_eq_true rfl) (fun v M1 hq hR1 => ?_)
  obtain ⟨r1, rfl, ic1, f1, e1_0, e1_1, e1_2, e1_3, e1_4, e1_5, e1_6, e1_7, e1_8, e1_9, e1_10, e1_11, e1_12, e1_13, e1_14, e1_15, e1_16, e1_17, e1_18, p1⟩ := hq
  have im1 : IM M1 := IM.fr im f1 (fun c z => by first | omega | (dsimp only at z; omega))
  have fd1 := frD (Fr.tr Fr.rf f1 fi_90)
  have wr1 : TR M1 := TR.fr wr (f1 32 (by decide)) (f1 106 (by decide)) (by omega) (by omega) (congrFun (f1 97 (by decide)) 17)
  show J X.1 RL cL_law 4 ret (ELW X M1 b L xs) C N Zl 834 [(3, vi i), (2, vr X 97), (1, vr X 0), (0, .ref b)] [vi r1]
  refine j_pop (pc' := 835) dL_law_834 rfl rfl ?_
  refine j_aload (pc' := 836) 1 dL_law_835 rfl rfl ?_
  refine j_aload (pc' := 837) 3 dL_law_836 rfl rfl ?_
  refine j_iload_n (pc' := 838) 0 dL_law_837 rfl rfl ?_
  refine j_iconst (pc' := 839) dL_law_838 rfl ?_
  refine j_iadd (pc' := 840) dL_law_839 rfl ?_
  refine w_sld (pc' := 841) dL_law_840 rfl (by omega) (by omega) ?_
  refine j_aload (pc' := 842) 3 dL_law_841 rfl rfl ?_
  refine j_iload_n (pc' := 843) 0 dL_law_842 rfl rfl ?_
  refine j_iconst (pc' := 844) dL_law_843 rfl ?_
  refine j_iadd (pc' := 845) dL_law_844 rfl ?_
  refine w_sld (pc' := 846) dL_law_845 rfl (by omega) (by omega) ?_
  refine j_aload (pc' := 847) 3 dL_law_846 rfl rfl ?_
  refine j_iload_n (pc' := 848) 0 dL_law_847 rfl rfl ?_
  refine j_iconst (pc' := 849) dL_law_848 rfl ?_
  refine j_iadd (pc' := 850) dL_law_849 rfl ?_
  refine w_sld (pc' := 851) dL_law_850 rfl (by omega) (by omega) ?_
  refine j_aload (pc' := 852) 3 dL_law_851 rfl rfl ?_
  refine j_iload_n (pc' := 853) 0 dL_law_852 rfl rfl ?_
  refine j_iconst (pc' := 854) dL_law_853 rfl ?_
  refine j_iadd (pc' := 855) dL_law_854 rfl ?_
  refine w_sld (pc' := 856) dL_law_855 rfl (by omega) (by omega) ?_
  refine j_aload (pc' := 857) 3 dL_law_856 rfl rfl ?_
  refine j_iload_n (pc' := 858) 0 dL_law_857 rfl rfl ?_
  refine j_iconst (pc' := 859) dL_law_858 rfl ?_
  refine j_iadd (pc' := 860) dL_law_859 rfl ?_
  refine w_sld (pc' := 861) dL_law_860 rfl (by omega) (by omega) ?_
  refine j_aload (pc' := 862) 3 dL_law_861 rfl rfl ?_
  refine j_iload_n (pc' := 863) 0 dL_law_862 rfl rfl ?_
  refine j_bipush (pc' := 865) (v := 6) dL_law_863 rfl (by decide) ?_
  refine j_iadd (pc' := 866) dL_law_865 rfl ?_
  refine w_sld (pc' := 867) dL_law_866 rfl (by omega) (by omega) ?_
  refine w_call hC hN hR1 (pc' := 870) (As := [vi (sx xs (i + 1)), vi (sx xs (i + 2)), vi (sx xs (i + 3)), vi (sx xs (i + 4)), vi (sx xs (i + 5)), vi (sx xs (i + 6))]) (o := 97) (S := []) dL_law_867 rfl m_L_109 w_X10_reach (c_X10_reach_x X M1 im1 (sx xs (i + 1)) (sx_in xs (i + 1)) (sx xs (i + 2)) (sx_in xs (i + 2)) (sx xs (i + 3)) (sx_in xs (i + 3)) (sx xs (i + 4)) (sx_in xs (i + 4)) (sx xs (i + 5)) (sx_in xs (i + 5)) (sx xs (i + 6)) (sx_in xs (i + 6))) rfl ⟨_, _, _, rfl, rfl, rfl⟩ (Nat.le_of_ble_eq_true rfl) (Nat.le_of_ble_eq_true rfl) rfl (Nat.le_of_ble_eq_true rfl) (fun v M2 hq hR2 => ?_)
  obtain ⟨r2, rfl, im2, f2, e2_0, e2_1, e2_2, e2_3, e2_4, e2_5, e2_6, e2_7, e2_8, e2_9, e2_10, e2_11, e2_12, e2_13, e2_14, e2_15, e2_16, e2_17, e2_18, e2_19, p2⟩ := hq
  have ic2 : IC M2 := IC.fr ic1 f2 (fun c z => by unfold free isT; first | omega | (dsimp only at z; omega))
  have fd2 := frC (Fr.tr Fr.rf f2 fi_91)
  have wr2 : TR M2 := TR.fr wr1 (f2 32 (by decide)) (f2 106 (by decide)) (by omega) (congrFun (f2 0 (by decide)) 12) (by omega)
  show J X.1 RL cL_law 4 ret (ELW X M2 b L xs) C N Zl 870 [(3, vi i), (2, vr X 97), (1, vr X 0), (0, .ref b)] [vi r2]
  refine j_pop (pc' := 871) dL_law_870 rfl rfl ?_
  refine j_goto (tgt := 1429) dL_law_871 rfl ?_
  have F := Fr.tr (P := fun c => (fun c => (60 ≤ c ∧ c ≤ 83)) c ∨ (fun c => c = 97 ∨ c = 101 ∨ c = 104 ∨ c = 105 ∨ c = 113 ∨ c = 114) c) (Fr.tr Fr.rf f1 (fun c z => Or.inl z)) f2 (fun c z => Or.inr z)
  have k0_10 : M2 0 10 = M1 0 10 := congrFun (f2 0 (by first | decide | omega | (dsimp only; omega))) 10
  have k0_11 : M2 0 11 = M1 0 11 := congrFun (f2 0 (by first | decide | omega | (dsimp only; omega))) 11
  have k0_12 : M2 0 12 = M1 0 12 := congrFun (f2 0 (by first | decide | omega | (dsimp only; omega))) 12
  have k0_13 : M2 0 13 = M1 0 13 := congrFun (f2 0 (by first | decide | omega | (dsimp only; omega))) 13
  have k97_1 : M1 97 1 = M 97 1 := congrFun (f1 97 (by first | decide | omega | (dsimp only; omega))) 1
  have k97_10 : M1 97 10 = M 97 10 := congrFun (f1 97 (by first | decide | omega | (dsimp only; omega))) 10
  have k97_17 : M1 97 17 = M 97 17 := congrFun (f1 97 (by first | decide | omega | (dsimp only; omega))) 17
  have k97_33 : M1 97 33 = M 97 33 := congrFun (f1 97 (by first | decide | omega | (dsimp only; omega))) 33
  have k97_44 : M1 97 44 = M 97 44 := congrFun (f1 97 (by first | decide | omega | (dsimp only; omega))) 44
  obtain ⟨g1, g2, g3, g4, rf, ⟨g6a, g6b⟩, g7_⟩ := gr
  have k99_0 : M2 99 0 = M 99 0 := congrFun ((f2 99 (by first | decide | omega | (dsimp only; omega))).trans (f1 99 (by first | decide | omega | (dsimp only; omega)))) 0
  have gr2 : GR M2 := GR.k ⟨g1, g2, g3, g4, rf, ⟨g6a, g6b⟩, g7_⟩ F (fun c z => by unfold inT; first | omega | (dsimp only at z; omega)) (G1.fr g1 F (fun c z => by unfold inT; first | omega | (dsimp only at z; omega)) k99_0 (fun k _ _ => congrFun ((f2 99 (by first | decide | omega | (dsimp only; omega))).trans (f1 99 (by first | decide | omega | (dsimp only; omega)))) k) (by rw [← show M1 101 = M 101 from (f1 101 (by first | decide | omega | (dsimp only; omega)))]; exact p2.2)) (G2.fr g2 ((f2 7 (by first | decide | omega | (dsimp only; omega))).trans (f1 7 (by first | decide | omega | (dsimp only; omega)))) (by omega) (by omega) (fun k _ _ => congrFun ((f2 99 (by first | decide | omega | (dsimp only; omega))).trans (f1 99 (by first | decide | omega | (dsimp only; omega)))) k)) (RFR.fr rf (by omega) (by omega) ((f2 96 (by first | decide | omega | (dsimp only; omega))).trans (f1 96 (by first | decide | omega | (dsimp only; omega)))) ((f2 98 (by first | decide | omega | (dsimp only; omega))).trans (f1 98 (by first | decide | omega | (dsimp only; omega))))) ⟨by omega, by omega⟩ (by omega)
  exact hk M2 hR2 ic2 im2 ⟨by unfold CR at cr ⊢; omega, wr2, gr2⟩
set_option maxHeartbeats 4000000 in
set_option maxRecDepth 100000 in
theorem law_c22 (X : Cx) (b L : Nat) (xs : Nat → Int32) (C N : Nat) (hC : C + 0 ≤ 600000) (hN : N + 0 ≤ 7302249) (i : Int) (M : Mm) (hR : Rg M) (ic : IC M) (im : IM M) (crx : CX M) (h0 : 0 ≤ i) (h1 : i + 7 ≤ L) (hL : L ≤ 3584) (hk : ∀ M' : Mm, Rg M' → IC M' → IM M' → CX M' → J X.1 RL cL_law 4 ret (ELW X M' b L xs) C N Zl 1429 [(3, vi i), (2, vr X 97), (1, vr X 0), (0, .ref b)] []) : J X.1 RL cL_law 4 ret (ELW X M b L xs) C N Zl 874 [(3, vi i), (2, vr X 97), (1, vr X 0), (0, .ref b)] [] := by
  have cr := crx.1
  have wr := crx.2.1
  have gr := crx.2.2
  have bb := ICb ic
  refine j_aload (pc' := 875) 2 dL_law_874 rfl rfl ?_
  refine j_aload (pc' := 876) 3 dL_law_875 rfl rfl ?_
  refine j_iload_n (pc' := 877) 0 dL_law_876 rfl rfl ?_
  refine j_iconst (pc' := 878) dL_law_877 rfl ?_
  refine j_iadd (pc' := 879) dL_law_878 rfl ?_
  refine w_sld (pc' := 880) dL_law_879 rfl (by omega) (by omega) ?_
  refine j_aload (pc' := 881) 3 dL_law_880 rfl rfl ?_
  refine j_iload_n (pc' := 882) 0 dL_law_881 rfl rfl ?_
  refine j_iconst (pc' := 883) dL_law_882 rfl ?_
  refine j_iadd (pc' := 884) dL_law_883 rfl ?_
  refine w_sld (pc' := 885) dL_law_884 rfl (by omega) (by omega) ?_
  refine j_aload (pc' := 886) 3 dL_law_885 rfl rfl ?_
  refine j_iload_n (pc' := 887) 0 dL_law_886 rfl rfl ?_
  refine j_iconst (pc' := 888) dL_law_887 rfl ?_
  refine j_iadd (pc' := 889) dL_law_888 rfl ?_
  refine w_sld (pc' := 890) dL_law_889 rfl (by omega) (by omega) ?_
  refine w_call hC hN hR (pc' := 893) (As := [vi (sx xs (i + 1)), vi (sx xs (i + 2)), vi (sx xs (i + 3))]) (o := 0) (S := []) dL_law_890 rfl m_L_110 w_X9_tasting (c_X9_tasting_x X M ic (sx xs (i + 1)) (sx_in xs (i + 1)) (sx xs (i + 2)) (sx_in xs (i + 2)) (sx xs (i + 3)) (sx_in xs (i + 3))) rfl ⟨_, _, _, rfl, rfl, rfl⟩ (Nat.le_of_ble_eq_true rfl) (Nat.le_of_ble_eq_true rfl) rfl (Nat.le_of_ble_eq_true rfl) (fun v M1 hq hR1 => ?_)
  obtain ⟨r1, rfl, ic1, f1, e1_0, e1_1, e1_2, e1_3, e1_4, e1_5, e1_6, e1_7, e1_8, e1_9, e1_10, e1_11, e1_12, e1_13, e1_14, e1_15, e1_16, p1⟩ := hq
  have im1 : IM M1 := IM.fr im f1 (fun c z => by first | omega | (dsimp only at z; omega))
  have fd1 := frD (Fr.tr Fr.rf f1 fi_92)
  have x1 := p1.2
  replace p1 := p1.1
  have wr1 : TR M1 := TR.fr wr (f1 32 (by decide)) (f1 106 (by decide)) (by omega) (by omega) (congrFun (f1 97 (by decide)) 17)
  show J X.1 RL cL_law 4 ret (ELW X M1 b L xs) C N Zl 893 [(3, vi i), (2, vr X 97), (1, vr X 0), (0, .ref b)] [vi r1]
  refine j_pop (pc' := 894) dL_law_893 rfl rfl ?_
  refine j_aload (pc' := 895) 1 dL_law_894 rfl rfl ?_
  refine j_aload (pc' := 896) 3 dL_law_895 rfl rfl ?_
  refine j_iload_n (pc' := 897) 0 dL_law_896 rfl rfl ?_
  refine j_iconst (pc' := 898) dL_law_897 rfl ?_
  refine j_iadd (pc' := 899) dL_law_898 rfl ?_
  refine w_sld (pc' := 900) dL_law_899 rfl (by omega) (by omega) ?_
  refine j_aload (pc' := 901) 3 dL_law_900 rfl rfl ?_
  refine j_iload_n (pc' := 902) 0 dL_law_901 rfl rfl ?_
  refine j_iconst (pc' := 903) dL_law_902 rfl ?_
  refine j_iadd (pc' := 904) dL_law_903 rfl ?_
  refine w_sld (pc' := 905) dL_law_904 rfl (by omega) (by omega) ?_
  refine j_aload (pc' := 906) 3 dL_law_905 rfl rfl ?_
  refine j_iload_n (pc' := 907) 0 dL_law_906 rfl rfl ?_
  refine j_iconst (pc' := 908) dL_law_907 rfl ?_
  refine j_iadd (pc' := 909) dL_law_908 rfl ?_
  refine w_sld (pc' := 910) dL_law_909 rfl (by omega) (by omega) ?_
  refine w_call hC hN hR1 (pc' := 913) (As := [vi (sx xs (i + 1)), vi (sx xs (i + 2)), vi (sx xs (i + 3))]) (o := 97) (S := []) dL_law_910 rfl m_L_113 w_X10_tasting (c_X10_tasting_x X M1 im1 (sx xs (i + 1)) (sx_in xs (i + 1)) (sx xs (i + 2)) (sx_in xs (i + 2)) (sx xs (i + 3)) (sx_in xs (i + 3))) rfl ⟨_, _, _, rfl, rfl, rfl⟩ (Nat.le_of_ble_eq_true rfl) (Nat.le_of_ble_eq_true rfl) rfl (Nat.le_of_ble_eq_true rfl) (fun v M2 hq hR2 => ?_)
  obtain ⟨r2, rfl, im2, f2, e2_0, e2_1, e2_2, e2_3, e2_4, e2_5, e2_6, e2_7, e2_8, e2_9, e2_10, e2_11, e2_12, e2_13, e2_14, e2_15, e2_16, e2_17, p2⟩ := hq
  have ic2 : IC M2 := IC.fr ic1 f2 (fun c z => by unfold free isT; first | omega | (dsimp only at z; omega))
  have fd2 := frC (Fr.tr Fr.rf f2 fi_77)
  have x2 := p2.2
  replace p2 := p2.1
  have wr2 : TR M2 := TR.fr wr1 (f2 32 (by decide)) (f2 106 (by decide)) (by omega) (congrFun (f2 0 (by decide)) 12) (by omega)
  show J X.1 RL cL_law 4 ret (ELW X M2 b L xs) C N Zl 913 [(3, vi i), (2, vr X 97), (1, vr X 0), (0, .ref b)] [vi r2]
  refine j_pop (pc' := 914) dL_law_913 rfl rfl ?_
  refine j_goto (tgt := 1429) dL_law_914 rfl ?_
  have ha_ : -6 ≤ r2 := by unfold CR at cr; clear p1; omega
  have dt := det_tasting p1 p2 (by unfold CR at cr; omega) (by unfold CR at cr; omega)
  clear p1 p2
  have F := Fr.tr (P := fun c => (fun c => c = 1 ∨ c = 8 ∨ c = 0 ∨ c = 96) c ∨ (fun c => c = 97 ∨ c = 98 ∨ c = 99) c) (Fr.tr Fr.rf f1 (fun c z => Or.inl z)) f2 (fun c z => Or.inr z)
  have k0_10 : M2 0 10 = M1 0 10 := congrFun (f2 0 (by first | decide | omega | (dsimp only; omega))) 10
  have k0_11 : M2 0 11 = M1 0 11 := congrFun (f2 0 (by first | decide | omega | (dsimp only; omega))) 11
  have k0_12 : M2 0 12 = M1 0 12 := congrFun (f2 0 (by first | decide | omega | (dsimp only; omega))) 12
  have k0_13 : M2 0 13 = M1 0 13 := congrFun (f2 0 (by first | decide | omega | (dsimp only; omega))) 13
  have k97_1 : M1 97 1 = M 97 1 := congrFun (f1 97 (by first | decide | omega | (dsimp only; omega))) 1
  have k97_10 : M1 97 10 = M 97 10 := congrFun (f1 97 (by first | decide | omega | (dsimp only; omega))) 10
  have k97_17 : M1 97 17 = M 97 17 := congrFun (f1 97 (by first | decide | omega | (dsimp only; omega))) 17
  have k97_33 : M1 97 33 = M 97 33 := congrFun (f1 97 (by first | decide | omega | (dsimp only; omega))) 33
  have k97_44 : M1 97 44 = M 97 44 := congrFun (f1 97 (by first | decide | omega | (dsimp only; omega))) 44
  obtain ⟨g1, g2, g3, g4, rf, ⟨g6a, g6b⟩, g7_⟩ := gr
  have k99_0 : M2 99 0 = M 99 0 := by omega
  have hrr : r1 = r2 := dt.1
  have gr2 : GR M2 := GR.k ⟨g1, g2, g3, g4, rf, ⟨g6a, g6b⟩, g7_⟩ F (fun c z => by unfold inT; first | omega | (dsimp only at z; omega)) (G1.fr g1 F (fun c z => by unfold inT; first | omega | (dsimp only at z; omega)) k99_0 (fun k h1 h2 => (x2.1 k h1 (by omega)).trans (congrFun (f1 99 (by first | decide | omega | (dsimp only; omega))) k)) (fun j _ => congrFun ((f2 101 (by first | decide | omega | (dsimp only; omega))).trans (f1 101 (by first | decide | omega | (dsimp only; omega)))) j)) (G2.fr g2 ((f2 7 (by first | decide | omega | (dsimp only; omega))).trans (f1 7 (by first | decide | omega | (dsimp only; omega)))) (by omega) (by omega) (fun k h1 h2 => (x2.1 k h1 (by omega)).trans (congrFun (f1 99 (by first | decide | omega | (dsimp only; omega))) k))) (RFR.s2 rf ha_ hrr k0_10 x1.1 x2.2.1 (f2 96 (by first | decide | omega | (dsimp only; omega))) x1.2 (f1 98 (by first | decide | omega | (dsimp only; omega))) x2.2.2) ⟨by omega, by omega⟩ (by omega)
  exact hk M2 hR2 ic2 im2 ⟨by unfold CR at cr ⊢; omega, wr2, gr2⟩
set_option maxHeartbeats 4000000 in
set_option maxRecDepth 100000 in
theorem law_c23 (X : Cx) (b L : Nat) (xs : Nat → Int32) (C N : Nat) (hC : C + 0 ≤ 600000) (hN : N + 0 ≤ 7302249) (i : Int) (M : Mm) (hR : Rg M) (ic : IC M) (im : IM M) (crx : CX M) (h0 : 0 ≤ i) (h1 : i + 7 ≤ L) (hL : L ≤ 3584) (hk : ∀ M' : Mm, Rg M' → IC M' → IM M' → CX M' → J X.1 RL cL_law 4 ret (ELW X M' b L xs) C N Zl 1429 [(3, vi i), (2, vr X 97), (1, vr X 0), (0, .ref b)] []) : J X.1 RL cL_law 4 ret (ELW X M b L xs) C N Zl 917 [(3, vi i), (2, vr X 97), (1, vr X 0), (0, .ref b)] [] := by
  have cr := crx.1
  have wr := crx.2.1
  have gr := crx.2.2
  have bb := ICb ic
  refine j_aload (pc' := 918) 2 dL_law_917 rfl rfl ?_
  refine j_aload (pc' := 919) 3 dL_law_918 rfl rfl ?_
  refine j_iload_n (pc' := 920) 0 dL_law_919 rfl rfl ?_
  refine j_iconst (pc' := 921) dL_law_920 rfl ?_
  refine j_iadd (pc' := 922) dL_law_921 rfl ?_
  refine w_sld (pc' := 923) dL_law_922 rfl (by omega) (by omega) ?_
  refine j_aload (pc' := 924) 3 dL_law_923 rfl rfl ?_
  refine j_iload_n (pc' := 925) 0 dL_law_924 rfl rfl ?_
  refine j_iconst (pc' := 926) dL_law_925 rfl ?_
  refine j_iadd (pc' := 927) dL_law_926 rfl ?_
  refine w_sld (pc' := 928) dL_law_927 rfl (by omega) (by omega) ?_
  refine j_aload (pc' := 929) 3 dL_law_928 rfl rfl ?_
  refine j_iload_n (pc' := 930) 0 dL_law_929 rfl rfl ?_
  refine j_iconst (pc' := 931) dL_law_930 rfl ?_
  refine j_iadd (pc' := 932) dL_law_931 rfl ?_
  refine w_sld (pc' := 933) dL_law_932 rfl (by omega) (by omega) ?_
  refine w_call hC hN hR (pc' := 936) (As := [vi (sx xs (i + 1)), vi (sx xs (i + 2)), vi (sx xs (i + 3))]) (o := 0) (S := []) dL_law_933 rfl m_L_114 w_X9_fits (c_X9_fits X M ic (sx xs (i + 1)) (sx_in xs (i + 1)) (sx xs (i + 2)) (sx_in xs (i + 2)) (sx xs (i + 3)) (sx_in xs (i + 3))) rfl ⟨_, _, _, rfl, rfl, rfl⟩ (Nat.le_of_ble_eq_true rfl) (Nat.le_of_ble_eq_true rfl) rfl (Nat.le_of_ble_eq_true rfl) (fun v M1 hq hR1 => ?_)
  obtain ⟨r1, rfl, ic1, f1, e1_0, e1_1, e1_2, e1_3, e1_4, e1_5, e1_6, e1_7, e1_8, e1_9, e1_10, e1_11, e1_12, e1_13, e1_14, e1_15, e1_16, e1_17, e1_18, p1⟩ := hq
  have im1 : IM M1 := IM.fr im f1 (fun c z => by first | omega | (dsimp only at z; omega))
  have fd1 := frD (Fr.tr Fr.rf f1 fi_90)
  have wr1 : TR M1 := TR.fr wr (f1 32 (by decide)) (f1 106 (by decide)) (by omega) (by omega) (congrFun (f1 97 (by decide)) 17)
  show J X.1 RL cL_law 4 ret (ELW X M1 b L xs) C N Zl 936 [(3, vi i), (2, vr X 97), (1, vr X 0), (0, .ref b)] [vi r1]
  refine j_pop (pc' := 937) dL_law_936 rfl rfl ?_
  refine j_aload (pc' := 938) 1 dL_law_937 rfl rfl ?_
  refine j_aload (pc' := 939) 3 dL_law_938 rfl rfl ?_
  refine j_iload_n (pc' := 940) 0 dL_law_939 rfl rfl ?_
  refine j_iconst (pc' := 941) dL_law_940 rfl ?_
  refine j_iadd (pc' := 942) dL_law_941 rfl ?_
  refine w_sld (pc' := 943) dL_law_942 rfl (by omega) (by omega) ?_
  refine j_aload (pc' := 944) 3 dL_law_943 rfl rfl ?_
  refine j_iload_n (pc' := 945) 0 dL_law_944 rfl rfl ?_
  refine j_iconst (pc' := 946) dL_law_945 rfl ?_
  refine j_iadd (pc' := 947) dL_law_946 rfl ?_
  refine w_sld (pc' := 948) dL_law_947 rfl (by omega) (by omega) ?_
  refine j_aload (pc' := 949) 3 dL_law_948 rfl rfl ?_
  refine j_iload_n (pc' := 950) 0 dL_law_949 rfl rfl ?_
  refine j_iconst (pc' := 951) dL_law_950 rfl ?_
  refine j_iadd (pc' := 952) dL_law_951 rfl ?_
  refine w_sld (pc' := 953) dL_law_952 rfl (by omega) (by omega) ?_
  refine w_call hC hN hR1 (pc' := 956) (As := [vi (sx xs (i + 1)), vi (sx xs (i + 2)), vi (sx xs (i + 3))]) (o := 97) (S := []) dL_law_953 rfl m_L_117 w_X10_fits (c_X10_fits_x X M1 im1 (sx xs (i + 1)) (sx_in xs (i + 1)) (sx xs (i + 2)) (sx_in xs (i + 2)) (sx xs (i + 3)) (sx_in xs (i + 3))) rfl ⟨_, _, _, rfl, rfl, rfl⟩ (Nat.le_of_ble_eq_true rfl) (Nat.le_of_ble_eq_true rfl) rfl (Nat.le_of_ble_eq_true rfl) (fun v M2 hq hR2 => ?_)
  obtain ⟨r2, rfl, im2, f2, e2_0, e2_1, e2_2, e2_3, e2_4, e2_5, e2_6, e2_7, e2_8, e2_9, e2_10, e2_11, e2_12, e2_13, e2_14, e2_15, e2_16, e2_17, e2_18, e2_19, p2⟩ := hq
  have ic2 : IC M2 := IC.fr ic1 f2 (fun c z => by unfold free isT; first | omega | (dsimp only at z; omega))
  have fd2 := frC (Fr.tr Fr.rf f2 fi_91)
  have wr2 : TR M2 := TR.fr wr1 (f2 32 (by decide)) (f2 106 (by decide)) (by omega) (congrFun (f2 0 (by decide)) 12) (by omega)
  show J X.1 RL cL_law 4 ret (ELW X M2 b L xs) C N Zl 956 [(3, vi i), (2, vr X 97), (1, vr X 0), (0, .ref b)] [vi r2]
  refine j_pop (pc' := 957) dL_law_956 rfl rfl ?_
  refine j_goto (tgt := 1429) dL_law_957 rfl ?_
  have F := Fr.tr (P := fun c => (fun c => (60 ≤ c ∧ c ≤ 83)) c ∨ (fun c => c = 97 ∨ c = 101 ∨ c = 104 ∨ c = 105 ∨ c = 113 ∨ c = 114) c) (Fr.tr Fr.rf f1 (fun c z => Or.inl z)) f2 (fun c z => Or.inr z)
  have k0_10 : M2 0 10 = M1 0 10 := congrFun (f2 0 (by first | decide | omega | (dsimp only; omega))) 10
  have k0_11 : M2 0 11 = M1 0 11 := congrFun (f2 0 (by first | decide | omega | (dsimp only; omega))) 11
  have k0_12 : M2 0 12 = M1 0 12 := congrFun (f2 0 (by first | decide | omega | (dsimp only; omega))) 12
  have k0_13 : M2 0 13 = M1 0 13 := congrFun (f2 0 (by first | decide | omega | (dsimp only; omega))) 13
  have k97_1 : M1 97 1 = M 97 1 := congrFun (f1 97 (by first | decide | omega | (dsimp only; omega))) 1
  have k97_10 : M1 97 10 = M 97 10 := congrFun (f1 97 (by first | decide | omega | (dsimp only; omega))) 10
  have k97_17 : M1 97 17 = M 97 17 := congrFun (f1 97 (by first | decide | omega | (dsimp only; omega))) 17
  have k97_33 : M1 97 33 = M 97 33 := congrFun (f1 97 (by first | decide | omega | (dsimp only; omega))) 33
  have k97_44 : M1 97 44 = M 97 44 := congrFun (f1 97 (by first | decide | omega | (dsimp only; omega))) 44
  obtain ⟨g1, g2, g3, g4, rf, ⟨g6a, g6b⟩, g7_⟩ := gr
  have k99_0 : M2 99 0 = M 99 0 := congrFun ((f2 99 (by first | decide | omega | (dsimp only; omega))).trans (f1 99 (by first | decide | omega | (dsimp only; omega)))) 0
  have gr2 : GR M2 := GR.k ⟨g1, g2, g3, g4, rf, ⟨g6a, g6b⟩, g7_⟩ F (fun c z => by unfold inT; first | omega | (dsimp only at z; omega)) (G1.fr g1 F (fun c z => by unfold inT; first | omega | (dsimp only at z; omega)) k99_0 (fun k _ _ => congrFun ((f2 99 (by first | decide | omega | (dsimp only; omega))).trans (f1 99 (by first | decide | omega | (dsimp only; omega)))) k) (by rw [← show M1 101 = M 101 from (f1 101 (by first | decide | omega | (dsimp only; omega)))]; exact p2.2)) (G2.fr g2 ((f2 7 (by first | decide | omega | (dsimp only; omega))).trans (f1 7 (by first | decide | omega | (dsimp only; omega)))) (by omega) (by omega) (fun k _ _ => congrFun ((f2 99 (by first | decide | omega | (dsimp only; omega))).trans (f1 99 (by first | decide | omega | (dsimp only; omega)))) k)) (RFR.fr rf (by omega) (by omega) ((f2 96 (by first | decide | omega | (dsimp only; omega))).trans (f1 96 (by first | decide | omega | (dsimp only; omega)))) ((f2 98 (by first | decide | omega | (dsimp only; omega))).trans (f1 98 (by first | decide | omega | (dsimp only; omega))))) ⟨by omega, by omega⟩ (by omega)
  exact hk M2 hR2 ic2 im2 ⟨by unfold CR at cr ⊢; omega, wr2, gr2⟩
set_option maxHeartbeats 4000000 in
set_option maxRecDepth 100000 in
theorem law_c24 (X : Cx) (b L : Nat) (xs : Nat → Int32) (C N : Nat) (hC : C + 0 ≤ 600000) (hN : N + 0 ≤ 7302249) (i : Int) (M : Mm) (hR : Rg M) (ic : IC M) (im : IM M) (crx : CX M) (h0 : 0 ≤ i) (h1 : i + 7 ≤ L) (hL : L ≤ 3584) (hk : ∀ M' : Mm, Rg M' → IC M' → IM M' → CX M' → J X.1 RL cL_law 4 ret (ELW X M' b L xs) C N Zl 1429 [(3, vi i), (2, vr X 97), (1, vr X 0), (0, .ref b)] []) : J X.1 RL cL_law 4 ret (ELW X M b L xs) C N Zl 960 [(3, vi i), (2, vr X 97), (1, vr X 0), (0, .ref b)] [] := by
  have cr := crx.1
  have wr := crx.2.1
  have gr := crx.2.2
  have bb := ICb ic
  refine j_aload (pc' := 961) 2 dL_law_960 rfl rfl ?_
  refine j_aload (pc' := 962) 3 dL_law_961 rfl rfl ?_
  refine j_iload_n (pc' := 963) 0 dL_law_962 rfl rfl ?_
  refine j_iconst (pc' := 964) dL_law_963 rfl ?_
  refine j_iadd (pc' := 965) dL_law_964 rfl ?_
  refine w_sld (pc' := 966) dL_law_965 rfl (by omega) (by omega) ?_
  refine j_aload (pc' := 967) 3 dL_law_966 rfl rfl ?_
  refine j_iload_n (pc' := 968) 0 dL_law_967 rfl rfl ?_
  refine j_iconst (pc' := 969) dL_law_968 rfl ?_
  refine j_iadd (pc' := 970) dL_law_969 rfl ?_
  refine w_sld (pc' := 971) dL_law_970 rfl (by omega) (by omega) ?_
  refine j_aload (pc' := 972) 3 dL_law_971 rfl rfl ?_
  refine j_iload_n (pc' := 973) 0 dL_law_972 rfl rfl ?_
  refine j_iconst (pc' := 974) dL_law_973 rfl ?_
  refine j_iadd (pc' := 975) dL_law_974 rfl ?_
  refine w_sld (pc' := 976) dL_law_975 rfl (by omega) (by omega) ?_
  refine j_aload (pc' := 977) 3 dL_law_976 rfl rfl ?_
  refine j_iload_n (pc' := 978) 0 dL_law_977 rfl rfl ?_
  refine j_iconst (pc' := 979) dL_law_978 rfl ?_
  refine j_iadd (pc' := 980) dL_law_979 rfl ?_
  refine w_sld (pc' := 981) dL_law_980 rfl (by omega) (by omega) ?_
  refine w_call hC hN hR (pc' := 984) (As := [vi (sx xs (i + 1)), vi (sx xs (i + 2)), vi (sx xs (i + 3)), vi (sx xs (i + 4))]) (o := 0) (S := []) dL_law_981 rfl m_L_118 w_X9_cask (c_X9_cask X M ic (sx xs (i + 1)) (sx_in xs (i + 1)) (sx xs (i + 2)) (sx_in xs (i + 2)) (sx xs (i + 3)) (sx_in xs (i + 3)) (sx xs (i + 4)) (sx_in xs (i + 4))) rfl ⟨_, _, _, rfl, rfl, rfl⟩ (Nat.le_of_ble_eq_true rfl) (Nat.le_of_ble_eq_true rfl) rfl (Nat.le_of_ble_eq_true rfl) (fun v M1 hq hR1 => ?_)
  obtain ⟨r1, rfl, e1, p1⟩ := hq
  rw [e1]
  show J X.1 RL cL_law 4 ret (ELW X M b L xs) C N Zl 984 [(3, vi i), (2, vr X 97), (1, vr X 0), (0, .ref b)] [vl r1]
  refine j_pop2 (pc' := 985) dL_law_984 rfl rfl ?_
  refine j_aload (pc' := 986) 1 dL_law_985 rfl rfl ?_
  refine j_aload (pc' := 987) 3 dL_law_986 rfl rfl ?_
  refine j_iload_n (pc' := 988) 0 dL_law_987 rfl rfl ?_
  refine j_iconst (pc' := 989) dL_law_988 rfl ?_
  refine j_iadd (pc' := 990) dL_law_989 rfl ?_
  refine w_sld (pc' := 991) dL_law_990 rfl (by omega) (by omega) ?_
  refine j_aload (pc' := 992) 3 dL_law_991 rfl rfl ?_
  refine j_iload_n (pc' := 993) 0 dL_law_992 rfl rfl ?_
  refine j_iconst (pc' := 994) dL_law_993 rfl ?_
  refine j_iadd (pc' := 995) dL_law_994 rfl ?_
  refine w_sld (pc' := 996) dL_law_995 rfl (by omega) (by omega) ?_
  refine j_aload (pc' := 997) 3 dL_law_996 rfl rfl ?_
  refine j_iload_n (pc' := 998) 0 dL_law_997 rfl rfl ?_
  refine j_iconst (pc' := 999) dL_law_998 rfl ?_
  refine j_iadd (pc' := 1000) dL_law_999 rfl ?_
  refine w_sld (pc' := 1001) dL_law_1000 rfl (by omega) (by omega) ?_
  refine j_aload (pc' := 1002) 3 dL_law_1001 rfl rfl ?_
  refine j_iload_n (pc' := 1003) 0 dL_law_1002 rfl rfl ?_
  refine j_iconst (pc' := 1004) dL_law_1003 rfl ?_
  refine j_iadd (pc' := 1005) dL_law_1004 rfl ?_
  refine w_sld (pc' := 1006) dL_law_1005 rfl (by omega) (by omega) ?_
  refine w_call hC hN hR (pc' := 1009) (As := [vi (sx xs (i + 1)), vi (sx xs (i + 2)), vi (sx xs (i + 3)), vi (sx xs (i + 4))]) (o := 97) (S := []) dL_law_1006 rfl m_L_121 w_X10_cask (c_X10_cask X M im (sx xs (i + 1)) (sx_in xs (i + 1)) (sx xs (i + 2)) (sx_in xs (i + 2)) (sx xs (i + 3)) (sx_in xs (i + 3)) (sx xs (i + 4)) (sx_in xs (i + 4))) rfl ⟨_, _, _, rfl, rfl, rfl⟩ (Nat.le_of_ble_eq_true rfl) (Nat.le_of_ble_eq_true rfl) rfl (Nat.le_of_ble_eq_true rfl) (fun v M2 hq hR2 => ?_)
  obtain ⟨r2, rfl, im2, f2, e2_0, e2_1, e2_2, e2_3, e2_4, e2_5, e2_6, e2_7, e2_8, e2_9, e2_10, e2_11, e2_12, e2_13, e2_14, e2_15, e2_16, e2_17, e2_18, e2_19, p2⟩ := hq
  have ic2 : IC M2 := IC.fr ic f2 (fun c z => by unfold free isT; first | omega | (dsimp only at z; omega))
  have fd2 := frC (Fr.tr Fr.rf f2 fi_78)
  have wr2 : TR M2 := TR.fr wr (f2 32 (by decide)) (f2 106 (by decide)) (by omega) (congrFun (f2 0 (by decide)) 12) (by omega)
  show J X.1 RL cL_law 4 ret (ELW X M2 b L xs) C N Zl 1009 [(3, vi i), (2, vr X 97), (1, vr X 0), (0, .ref b)] [vl r2]
  refine j_pop2 (pc' := 1010) dL_law_1009 rfl rfl ?_
  refine j_goto (tgt := 1429) dL_law_1010 rfl ?_
  have F := f2
  have k0_10 : M2 0 10 = M 0 10 := congrFun (f2 0 (by first | decide | omega | (dsimp only; omega))) 10
  have k0_11 : M2 0 11 = M 0 11 := congrFun (f2 0 (by first | decide | omega | (dsimp only; omega))) 11
  have k0_12 : M2 0 12 = M 0 12 := congrFun (f2 0 (by first | decide | omega | (dsimp only; omega))) 12
  have k0_13 : M2 0 13 = M 0 13 := congrFun (f2 0 (by first | decide | omega | (dsimp only; omega))) 13
  obtain ⟨g1, g2, g3, g4, rf, ⟨g6a, g6b⟩, g7_⟩ := gr
  have k99_0 : M2 99 0 = M 99 0 := congrFun (f2 99 (by first | decide | omega | (dsimp only; omega))) 0
  have gr2 : GR M2 := GR.k ⟨g1, g2, g3, g4, rf, ⟨g6a, g6b⟩, g7_⟩ F (fun c z => by unfold inT; first | omega | (dsimp only at z; omega)) (G1.fr g1 F (fun c z => by unfold inT; first | omega | (dsimp only at z; omega)) k99_0 (fun k _ _ => congrFun (f2 99 (by first | decide | omega | (dsimp only; omega))) k) (fun j _ => congrFun (f2 101 (by first | decide | omega | (dsimp only; omega))) j)) (G2.fr g2 (f2 7 (by first | decide | omega | (dsimp only; omega))) (by omega) (by omega) (fun k _ _ => congrFun (f2 99 (by first | decide | omega | (dsimp only; omega))) k)) (RFR.fr rf (by omega) (by omega) (f2 96 (by first | decide | omega | (dsimp only; omega))) (f2 98 (by first | decide | omega | (dsimp only; omega)))) ⟨by omega, by omega⟩ (by omega)
  exact hk M2 hR2 ic2 im2 ⟨by unfold CR at cr ⊢; omega, wr2, gr2⟩
set_option maxHeartbeats 4000000 in
set_option maxRecDepth 100000 in
theorem law_c25 (X : Cx) (b L : Nat) (xs : Nat → Int32) (C N : Nat) (hC : C + 0 ≤ 600000) (hN : N + 0 ≤ 7302249) (i : Int) (M : Mm) (hR : Rg M) (ic : IC M) (im : IM M) (crx : CX M) (h0 : 0 ≤ i) (h1 : i + 7 ≤ L) (hL : L ≤ 3584) (hk : ∀ M' : Mm, Rg M' → IC M' → IM M' → CX M' → J X.1 RL cL_law 4 ret (ELW X M' b L xs) C N Zl 1429 [(3, vi i), (2, vr X 97), (1, vr X 0), (0, .ref b)] []) : J X.1 RL cL_law 4 ret (ELW X M b L xs) C N Zl 1013 [(3, vi i), (2, vr X 97), (1, vr X 0), (0, .ref b)] [] := by
  have cr := crx.1
  have wr := crx.2.1
  have gr := crx.2.2
  have bb := ICb ic
  refine j_aload (pc' := 1014) 2 dL_law_1013 rfl rfl ?_
  refine j_aload (pc' := 1015) 3 dL_law_1014 rfl rfl ?_
  refine j_iload_n (pc' := 1016) 0 dL_law_1015 rfl rfl ?_
  refine j_iconst (pc' := 1017) dL_law_1016 rfl ?_
  refine j_iadd (pc' := 1018) dL_law_1017 rfl ?_
  refine w_sld (pc' := 1019) dL_law_1018 rfl (by omega) (by omega) ?_
  refine j_aload (pc' := 1020) 3 dL_law_1019 rfl rfl ?_
  refine j_iload_n (pc' := 1021) 0 dL_law_1020 rfl rfl ?_
  refine j_iconst (pc' := 1022) dL_law_1021 rfl ?_
  refine j_iadd (pc' := 1023) dL_law_1022 rfl ?_
  refine w_sld (pc' := 1024) dL_law_1023 rfl (by omega) (by omega) ?_
  refine j_aload (pc' := 1025) 3 dL_law_1024 rfl rfl ?_
  refine j_iload_n (pc' := 1026) 0 dL_law_1025 rfl rfl ?_
  refine j_iconst (pc' := 1027) dL_law_1026 rfl ?_
  refine j_iadd (pc' := 1028) dL_law_1027 rfl ?_
  refine w_sld (pc' := 1029) dL_law_1028 rfl (by omega) (by omega) ?_
  refine w_call hC hN hR (pc' := 1032) (As := [vi (sx xs (i + 1)), vi (sx xs (i + 2)), vi (sx xs (i + 3))]) (o := 0) (S := []) dL_law_1029 rfl m_L_122 w_X9_guests (c_X9_guests X M ic (sx xs (i + 1)) (sx_in xs (i + 1)) (sx xs (i + 2)) (sx_in xs (i + 2)) (sx xs (i + 3)) (sx_in xs (i + 3))) rfl ⟨_, _, _, rfl, rfl, rfl⟩ (Nat.le_of_ble_eq_true rfl) (Nat.le_of_ble_eq_true rfl) rfl (Nat.le_of_ble_eq_true rfl) (fun v M1 hq hR1 => ?_)
  obtain ⟨r1, rfl, e1, p1⟩ := hq
  rw [e1]
  show J X.1 RL cL_law 4 ret (ELW X M b L xs) C N Zl 1032 [(3, vi i), (2, vr X 97), (1, vr X 0), (0, .ref b)] [vi r1]
  refine j_pop (pc' := 1033) dL_law_1032 rfl rfl ?_
  refine j_aload (pc' := 1034) 1 dL_law_1033 rfl rfl ?_
  refine j_aload (pc' := 1035) 3 dL_law_1034 rfl rfl ?_
  refine j_iload_n (pc' := 1036) 0 dL_law_1035 rfl rfl ?_
  refine j_iconst (pc' := 1037) dL_law_1036 rfl ?_
  refine j_iadd (pc' := 1038) dL_law_1037 rfl ?_
  refine w_sld (pc' := 1039) dL_law_1038 rfl (by omega) (by omega) ?_
  refine j_aload (pc' := 1040) 3 dL_law_1039 rfl rfl ?_
  refine j_iload_n (pc' := 1041) 0 dL_law_1040 rfl rfl ?_
  refine j_iconst (pc' := 1042) dL_law_1041 rfl ?_
  refine j_iadd (pc' := 1043) dL_law_1042 rfl ?_
  refine w_sld (pc' := 1044) dL_law_1043 rfl (by omega) (by omega) ?_
  refine j_aload (pc' := 1045) 3 dL_law_1044 rfl rfl ?_
  refine j_iload_n (pc' := 1046) 0 dL_law_1045 rfl rfl ?_
  refine j_iconst (pc' := 1047) dL_law_1046 rfl ?_
  refine j_iadd (pc' := 1048) dL_law_1047 rfl ?_
  refine w_sld (pc' := 1049) dL_law_1048 rfl (by omega) (by omega) ?_
  refine w_call hC hN hR (pc' := 1052) (As := [vi (sx xs (i + 1)), vi (sx xs (i + 2)), vi (sx xs (i + 3))]) (o := 97) (S := []) dL_law_1049 rfl m_L_125 w_X10_guests (c_X10_guests X M im (sx xs (i + 1)) (sx_in xs (i + 1)) (sx xs (i + 2)) (sx_in xs (i + 2)) (sx xs (i + 3)) (sx_in xs (i + 3))) rfl ⟨_, _, _, rfl, rfl, rfl⟩ (Nat.le_of_ble_eq_true rfl) (Nat.le_of_ble_eq_true rfl) rfl (Nat.le_of_ble_eq_true rfl) (fun v M2 hq hR2 => ?_)
  obtain ⟨r2, rfl, im2, f2, e2_0, e2_1, e2_2, e2_3, e2_4, e2_5, e2_6, e2_7, e2_8, e2_9, e2_10, e2_11, e2_12, e2_13, e2_14, e2_15, e2_16, e2_17, e2_18, e2_19, p2⟩ := hq
  have ic2 : IC M2 := IC.fr ic f2 (fun c z => by unfold free isT; first | omega | (dsimp only at z; omega))
  have fd2 := frC (Fr.tr Fr.rf f2 fi_78)
  have wr2 : TR M2 := TR.fr wr (f2 32 (by decide)) (f2 106 (by decide)) (by omega) (congrFun (f2 0 (by decide)) 12) (by omega)
  show J X.1 RL cL_law 4 ret (ELW X M2 b L xs) C N Zl 1052 [(3, vi i), (2, vr X 97), (1, vr X 0), (0, .ref b)] [vi r2]
  refine j_pop (pc' := 1053) dL_law_1052 rfl rfl ?_
  refine j_goto (tgt := 1429) dL_law_1053 rfl ?_
  have F := f2
  have k0_10 : M2 0 10 = M 0 10 := congrFun (f2 0 (by first | decide | omega | (dsimp only; omega))) 10
  have k0_11 : M2 0 11 = M 0 11 := congrFun (f2 0 (by first | decide | omega | (dsimp only; omega))) 11
  have k0_12 : M2 0 12 = M 0 12 := congrFun (f2 0 (by first | decide | omega | (dsimp only; omega))) 12
  have k0_13 : M2 0 13 = M 0 13 := congrFun (f2 0 (by first | decide | omega | (dsimp only; omega))) 13
  obtain ⟨g1, g2, g3, g4, rf, ⟨g6a, g6b⟩, g7_⟩ := gr
  have k99_0 : M2 99 0 = M 99 0 := congrFun (f2 99 (by first | decide | omega | (dsimp only; omega))) 0
  have gr2 : GR M2 := GR.k ⟨g1, g2, g3, g4, rf, ⟨g6a, g6b⟩, g7_⟩ F (fun c z => by unfold inT; first | omega | (dsimp only at z; omega)) (G1.fr g1 F (fun c z => by unfold inT; first | omega | (dsimp only at z; omega)) k99_0 (fun k _ _ => congrFun (f2 99 (by first | decide | omega | (dsimp only; omega))) k) (fun j _ => congrFun (f2 101 (by first | decide | omega | (dsimp only; omega))) j)) (G2.fr g2 (f2 7 (by first | decide | omega | (dsimp only; omega))) (by omega) (by omega) (fun k _ _ => congrFun (f2 99 (by first | decide | omega | (dsimp only; omega))) k)) (RFR.fr rf (by omega) (by omega) (f2 96 (by first | decide | omega | (dsimp only; omega))) (f2 98 (by first | decide | omega | (dsimp only; omega)))) ⟨by omega, by omega⟩ (by omega)
  exact hk M2 hR2 ic2 im2 ⟨by unfold CR at cr ⊢; omega, wr2, gr2⟩
set_option maxHeartbeats 4000000 in
set_option maxRecDepth 100000 in
theorem law_c26 (X : Cx) (b L : Nat) (xs : Nat → Int32) (C N : Nat) (hC : C + 0 ≤ 600000) (hN : N + 0 ≤ 7302249) (i : Int) (M : Mm) (hR : Rg M) (ic : IC M) (im : IM M) (crx : CX M) (h0 : 0 ≤ i) (h1 : i + 7 ≤ L) (hL : L ≤ 3584) (hk : ∀ M' : Mm, Rg M' → IC M' → IM M' → CX M' → J X.1 RL cL_law 4 ret (ELW X M' b L xs) C N Zl 1429 [(3, vi i), (2, vr X 97), (1, vr X 0), (0, .ref b)] []) : J X.1 RL cL_law 4 ret (ELW X M b L xs) C N Zl 1056 [(3, vi i), (2, vr X 97), (1, vr X 0), (0, .ref b)] [] := by
  have cr := crx.1
  have wr := crx.2.1
  have gr := crx.2.2
  have bb := ICb ic
  refine j_aload (pc' := 1057) 2 dL_law_1056 rfl rfl ?_
  refine j_aload (pc' := 1058) 3 dL_law_1057 rfl rfl ?_
  refine j_iload_n (pc' := 1059) 0 dL_law_1058 rfl rfl ?_
  refine j_iconst (pc' := 1060) dL_law_1059 rfl ?_
  refine j_iadd (pc' := 1061) dL_law_1060 rfl ?_
  refine w_sld (pc' := 1062) dL_law_1061 rfl (by omega) (by omega) ?_
  refine j_aload (pc' := 1063) 3 dL_law_1062 rfl rfl ?_
  refine j_iload_n (pc' := 1064) 0 dL_law_1063 rfl rfl ?_
  refine j_iconst (pc' := 1065) dL_law_1064 rfl ?_
  refine j_iadd (pc' := 1066) dL_law_1065 rfl ?_
  refine w_sld (pc' := 1067) dL_law_1066 rfl (by omega) (by omega) ?_
  refine j_aload (pc' := 1068) 3 dL_law_1067 rfl rfl ?_
  refine j_iload_n (pc' := 1069) 0 dL_law_1068 rfl rfl ?_
  refine j_iconst (pc' := 1070) dL_law_1069 rfl ?_
  refine j_iadd (pc' := 1071) dL_law_1070 rfl ?_
  refine w_sld (pc' := 1072) dL_law_1071 rfl (by omega) (by omega) ?_
  refine j_aload (pc' := 1073) 3 dL_law_1072 rfl rfl ?_
  refine j_iload_n (pc' := 1074) 0 dL_law_1073 rfl rfl ?_
  refine j_iconst (pc' := 1075) dL_law_1074 rfl ?_
  refine j_iadd (pc' := 1076) dL_law_1075 rfl ?_
  refine w_sld (pc' := 1077) dL_law_1076 rfl (by omega) (by omega) ?_
  refine w_call hC hN hR (pc' := 1080) (As := [vi (sx xs (i + 1)), vi (sx xs (i + 2)), vi (sx xs (i + 3)), vi (sx xs (i + 4))]) (o := 0) (S := []) dL_law_1077 rfl m_L_126 w_X9_rinse (c_X9_rinse X M ic (sx xs (i + 1)) (sx_in xs (i + 1)) (sx xs (i + 2)) (sx_in xs (i + 2)) (sx xs (i + 3)) (sx_in xs (i + 3)) (sx xs (i + 4)) (sx_in xs (i + 4))) rfl ⟨_, _, _, rfl, rfl, rfl⟩ (Nat.le_of_ble_eq_true rfl) (Nat.le_of_ble_eq_true rfl) rfl (Nat.le_of_ble_eq_true rfl) (fun v M1 hq hR1 => ?_)
  obtain ⟨r1, rfl, e1, p1⟩ := hq
  rw [e1]
  show J X.1 RL cL_law 4 ret (ELW X M b L xs) C N Zl 1080 [(3, vi i), (2, vr X 97), (1, vr X 0), (0, .ref b)] [vl r1]
  refine j_pop2 (pc' := 1081) dL_law_1080 rfl rfl ?_
  refine j_aload (pc' := 1082) 1 dL_law_1081 rfl rfl ?_
  refine j_aload (pc' := 1083) 3 dL_law_1082 rfl rfl ?_
  refine j_iload_n (pc' := 1084) 0 dL_law_1083 rfl rfl ?_
  refine j_iconst (pc' := 1085) dL_law_1084 rfl ?_
  refine j_iadd (pc' := 1086) dL_law_1085 rfl ?_
  refine w_sld (pc' := 1087) dL_law_1086 rfl (by omega) (by omega) ?_
  refine j_aload (pc' := 1088) 3 dL_law_1087 rfl rfl ?_
  refine j_iload_n (pc' := 1089) 0 dL_law_1088 rfl rfl ?_
  refine j_iconst (pc' := 1090) dL_law_1089 rfl ?_
  refine j_iadd (pc' := 1091) dL_law_1090 rfl ?_
  refine w_sld (pc' := 1092) dL_law_1091 rfl (by omega) (by omega) ?_
  refine j_aload (pc' := 1093) 3 dL_law_1092 rfl rfl ?_
  refine j_iload_n (pc' := 1094) 0 dL_law_1093 rfl rfl ?_
  refine j_iconst (pc' := 1095) dL_law_1094 rfl ?_
  refine j_iadd (pc' := 1096) dL_law_1095 rfl ?_
  refine w_sld (pc' := 1097) dL_law_1096 rfl (by omega) (by omega) ?_
  refine j_aload (pc' := 1098) 3 dL_law_1097 rfl rfl ?_
  refine j_iload_n (pc' := 1099) 0 dL_law_1098 rfl rfl ?_
  refine j_iconst (pc' := 1100) dL_law_1099 rfl ?_
  refine j_iadd (pc' := 1101) dL_law_1100 rfl ?_
  refine w_sld (pc' := 1102) dL_law_1101 rfl (by omega) (by omega) ?_
  refine w_call hC hN hR (pc' := 1105) (As := [vi (sx xs (i + 1)), vi (sx xs (i + 2)), vi (sx xs (i + 3)), vi (sx xs (i + 4))]) (o := 97) (S := []) dL_law_1102 rfl m_L_129 w_X10_rinse (c_X10_rinse X M im (sx xs (i + 1)) (sx_in xs (i + 1)) (sx xs (i + 2)) (sx_in xs (i + 2)) (sx xs (i + 3)) (sx_in xs (i + 3)) (sx xs (i + 4)) (sx_in xs (i + 4))) rfl ⟨_, _, _, rfl, rfl, rfl⟩ (Nat.le_of_ble_eq_true rfl) (Nat.le_of_ble_eq_true rfl) rfl (Nat.le_of_ble_eq_true rfl) (fun v M2 hq hR2 => ?_)
  obtain ⟨r2, rfl, im2, f2, e2_0, e2_1, e2_2, e2_3, e2_4, e2_5, e2_6, e2_7, e2_8, e2_9, e2_10, e2_11, e2_12, e2_13, e2_14, e2_15, e2_16, e2_17, e2_18, e2_19, p2⟩ := hq
  have ic2 : IC M2 := IC.fr ic f2 (fun c z => by unfold free isT; first | omega | (dsimp only at z; omega))
  have fd2 := frC (Fr.tr Fr.rf f2 fi_78)
  have wr2 : TR M2 := TR.fr wr (f2 32 (by decide)) (f2 106 (by decide)) (by omega) (congrFun (f2 0 (by decide)) 12) (by omega)
  show J X.1 RL cL_law 4 ret (ELW X M2 b L xs) C N Zl 1105 [(3, vi i), (2, vr X 97), (1, vr X 0), (0, .ref b)] [vl r2]
  refine j_pop2 (pc' := 1106) dL_law_1105 rfl rfl ?_
  refine j_goto (tgt := 1429) dL_law_1106 rfl ?_
  have F := f2
  have k0_10 : M2 0 10 = M 0 10 := congrFun (f2 0 (by first | decide | omega | (dsimp only; omega))) 10
  have k0_11 : M2 0 11 = M 0 11 := congrFun (f2 0 (by first | decide | omega | (dsimp only; omega))) 11
  have k0_12 : M2 0 12 = M 0 12 := congrFun (f2 0 (by first | decide | omega | (dsimp only; omega))) 12
  have k0_13 : M2 0 13 = M 0 13 := congrFun (f2 0 (by first | decide | omega | (dsimp only; omega))) 13
  obtain ⟨g1, g2, g3, g4, rf, ⟨g6a, g6b⟩, g7_⟩ := gr
  have k99_0 : M2 99 0 = M 99 0 := congrFun (f2 99 (by first | decide | omega | (dsimp only; omega))) 0
  have gr2 : GR M2 := GR.k ⟨g1, g2, g3, g4, rf, ⟨g6a, g6b⟩, g7_⟩ F (fun c z => by unfold inT; first | omega | (dsimp only at z; omega)) (G1.fr g1 F (fun c z => by unfold inT; first | omega | (dsimp only at z; omega)) k99_0 (fun k _ _ => congrFun (f2 99 (by first | decide | omega | (dsimp only; omega))) k) (fun j _ => congrFun (f2 101 (by first | decide | omega | (dsimp only; omega))) j)) (G2.fr g2 (f2 7 (by first | decide | omega | (dsimp only; omega))) (by omega) (by omega) (fun k _ _ => congrFun (f2 99 (by first | decide | omega | (dsimp only; omega))) k)) (RFR.fr rf (by omega) (by omega) (f2 96 (by first | decide | omega | (dsimp only; omega))) (f2 98 (by first | decide | omega | (dsimp only; omega)))) ⟨by omega, by omega⟩ (by omega)
  exact hk M2 hR2 ic2 im2 ⟨by unfold CR at cr ⊢; omega, wr2, gr2⟩
set_option maxHeartbeats 4000000 in
set_option maxRecDepth 100000 in
theorem law_c27 (X : Cx) (b L : Nat) (xs : Nat → Int32) (C N : Nat) (hC : C + 0 ≤ 600000) (hN : N + 0 ≤ 7302249) (i : Int) (M : Mm) (hR : Rg M) (ic : IC M) (im : IM M) (crx : CX M) (h0 : 0 ≤ i) (h1 : i + 7 ≤ L) (hL : L ≤ 3584) (hk : ∀ M' : Mm, Rg M' → IC M' → IM M' → CX M' → J X.1 RL cL_law 4 ret (ELW X M' b L xs) C N Zl 1429 [(3, vi i), (2, vr X 97), (1, vr X 0), (0, .ref b)] []) : J X.1 RL cL_law 4 ret (ELW X M b L xs) C N Zl 1109 [(3, vi i), (2, vr X 97), (1, vr X 0), (0, .ref b)] [] := by
  have cr := crx.1
  have wr := crx.2.1
  have gr := crx.2.2
  have bb := ICb ic
  refine j_aload (pc' := 1110) 2 dL_law_1109 rfl rfl ?_
  refine j_aload (pc' := 1111) 3 dL_law_1110 rfl rfl ?_
  refine j_iload_n (pc' := 1112) 0 dL_law_1111 rfl rfl ?_
  refine j_iconst (pc' := 1113) dL_law_1112 rfl ?_
  refine j_iadd (pc' := 1114) dL_law_1113 rfl ?_
  refine w_sld (pc' := 1115) dL_law_1114 rfl (by omega) (by omega) ?_
  refine j_aload (pc' := 1116) 3 dL_law_1115 rfl rfl ?_
  refine j_iload_n (pc' := 1117) 0 dL_law_1116 rfl rfl ?_
  refine j_iconst (pc' := 1118) dL_law_1117 rfl ?_
  refine j_iadd (pc' := 1119) dL_law_1118 rfl ?_
  refine w_sld (pc' := 1120) dL_law_1119 rfl (by omega) (by omega) ?_
  refine j_aload (pc' := 1121) 3 dL_law_1120 rfl rfl ?_
  refine j_iload_n (pc' := 1122) 0 dL_law_1121 rfl rfl ?_
  refine j_iconst (pc' := 1123) dL_law_1122 rfl ?_
  refine j_iadd (pc' := 1124) dL_law_1123 rfl ?_
  refine w_sld (pc' := 1125) dL_law_1124 rfl (by omega) (by omega) ?_
  refine w_call hC hN hR (pc' := 1128) (As := [vi (sx xs (i + 1)), vi (sx xs (i + 2)), vi (sx xs (i + 3))]) (o := 0) (S := []) dL_law_1125 rfl m_L_130 w_X9_wine (c_X9_wine_x X M ic (sx xs (i + 1)) (sx_in xs (i + 1)) (sx xs (i + 2)) (sx_in xs (i + 2)) (sx xs (i + 3)) (sx_in xs (i + 3))) rfl ⟨_, _, _, rfl, rfl, rfl⟩ (Nat.le_of_ble_eq_true rfl) (Nat.le_of_ble_eq_true rfl) rfl (Nat.le_of_ble_eq_true rfl) (fun v M1 hq hR1 => ?_)
  obtain ⟨r1, rfl, ic1, f1, e1_0, e1_1, e1_2, e1_3, e1_4, e1_5, e1_6, e1_7, e1_8, e1_9, e1_10, e1_11, e1_12, e1_13, e1_14, e1_15, e1_16, p1⟩ := hq
  have im1 : IM M1 := IM.fr im f1 (fun c z => by first | omega | (dsimp only at z; omega))
  have fd1 := frD (Fr.tr Fr.rf f1 fi_93)
  have x1 := p1.2
  replace p1 := p1.1
  have wr1 : TR M1 := TR.fr wr (f1 32 (by decide)) (f1 106 (by decide)) (by omega) (by omega) (congrFun (f1 97 (by decide)) 17)
  show J X.1 RL cL_law 4 ret (ELW X M1 b L xs) C N Zl 1128 [(3, vi i), (2, vr X 97), (1, vr X 0), (0, .ref b)] [vi r1]
  refine j_pop (pc' := 1129) dL_law_1128 rfl rfl ?_
  refine j_aload (pc' := 1130) 1 dL_law_1129 rfl rfl ?_
  refine j_aload (pc' := 1131) 3 dL_law_1130 rfl rfl ?_
  refine j_iload_n (pc' := 1132) 0 dL_law_1131 rfl rfl ?_
  refine j_iconst (pc' := 1133) dL_law_1132 rfl ?_
  refine j_iadd (pc' := 1134) dL_law_1133 rfl ?_
  refine w_sld (pc' := 1135) dL_law_1134 rfl (by omega) (by omega) ?_
  refine j_aload (pc' := 1136) 3 dL_law_1135 rfl rfl ?_
  refine j_iload_n (pc' := 1137) 0 dL_law_1136 rfl rfl ?_
  refine j_iconst (pc' := 1138) dL_law_1137 rfl ?_
  refine j_iadd (pc' := 1139) dL_law_1138 rfl ?_
  refine w_sld (pc' := 1140) dL_law_1139 rfl (by omega) (by omega) ?_
  refine j_aload (pc' := 1141) 3 dL_law_1140 rfl rfl ?_
  refine j_iload_n (pc' := 1142) 0 dL_law_1141 rfl rfl ?_
  refine j_iconst (pc' := 1143) dL_law_1142 rfl ?_
  refine j_iadd (pc' := 1144) dL_law_1143 rfl ?_
  refine w_sld (pc' := 1145) dL_law_1144 rfl (by omega) (by omega) ?_
  refine w_call hC hN hR1 (pc' := 1148) (As := [vi (sx xs (i + 1)), vi (sx xs (i + 2)), vi (sx xs (i + 3))]) (o := 97) (S := []) dL_law_1145 rfl m_L_133 w_X10_wine (c_X10_wine_x X M1 im1 (sx xs (i + 1)) (sx_in xs (i + 1)) (sx xs (i + 2)) (sx_in xs (i + 2)) (sx xs (i + 3)) (sx_in xs (i + 3))) rfl ⟨_, _, _, rfl, rfl, rfl⟩ (Nat.le_of_ble_eq_true rfl) (Nat.le_of_ble_eq_true rfl) rfl (Nat.le_of_ble_eq_true rfl) (fun v M2 hq hR2 => ?_)
  obtain ⟨r2, rfl, im2, f2, e2_0, e2_1, e2_2, e2_3, e2_4, e2_5, e2_6, e2_7, e2_8, e2_9, e2_10, e2_11, e2_12, e2_13, e2_14, e2_15, e2_16, e2_17, p2⟩ := hq
  have ic2 : IC M2 := IC.fr ic1 f2 (fun c z => by unfold free isT; first | omega | (dsimp only at z; omega))
  have fd2 := frC (Fr.tr Fr.rf f2 fi_77)
  have x2 := p2.2
  replace p2 := p2.1
  have wr2 : TR M2 := TR.fr wr1 (f2 32 (by decide)) (f2 106 (by decide)) (by omega) (congrFun (f2 0 (by decide)) 12) (by omega)
  show J X.1 RL cL_law 4 ret (ELW X M2 b L xs) C N Zl 1148 [(3, vi i), (2, vr X 97), (1, vr X 0), (0, .ref b)] [vi r2]
  refine j_pop (pc' := 1149) dL_law_1148 rfl rfl ?_
  refine j_goto (tgt := 1429) dL_law_1149 rfl ?_
  have ha_ : -6 ≤ r2 := by unfold CR at cr; clear p1; omega
  have dt := det_wine p1 p2 (by unfold CR at cr; omega)
  clear p1 p2
  have F := Fr.tr (P := fun c => (fun c => c = 1 ∨ c = 9 ∨ c = 0 ∨ c = 96) c ∨ (fun c => c = 97 ∨ c = 98 ∨ c = 99) c) (Fr.tr Fr.rf f1 (fun c z => Or.inl z)) f2 (fun c z => Or.inr z)
  have k0_10 : M2 0 10 = M1 0 10 := congrFun (f2 0 (by first | decide | omega | (dsimp only; omega))) 10
  have k0_11 : M2 0 11 = M1 0 11 := congrFun (f2 0 (by first | decide | omega | (dsimp only; omega))) 11
  have k0_12 : M2 0 12 = M1 0 12 := congrFun (f2 0 (by first | decide | omega | (dsimp only; omega))) 12
  have k0_13 : M2 0 13 = M1 0 13 := congrFun (f2 0 (by first | decide | omega | (dsimp only; omega))) 13
  have k97_1 : M1 97 1 = M 97 1 := congrFun (f1 97 (by first | decide | omega | (dsimp only; omega))) 1
  have k97_10 : M1 97 10 = M 97 10 := congrFun (f1 97 (by first | decide | omega | (dsimp only; omega))) 10
  have k97_17 : M1 97 17 = M 97 17 := congrFun (f1 97 (by first | decide | omega | (dsimp only; omega))) 17
  have k97_33 : M1 97 33 = M 97 33 := congrFun (f1 97 (by first | decide | omega | (dsimp only; omega))) 33
  have k97_44 : M1 97 44 = M 97 44 := congrFun (f1 97 (by first | decide | omega | (dsimp only; omega))) 44
  obtain ⟨g1, g2, g3, g4, rf, ⟨g6a, g6b⟩, g7_⟩ := gr
  have k99_0 : M2 99 0 = M 99 0 := by omega
  have hrr : r1 = r2 := dt.1
  have gr2 : GR M2 := GR.k ⟨g1, g2, g3, g4, rf, ⟨g6a, g6b⟩, g7_⟩ F (fun c z => by unfold inT; first | omega | (dsimp only at z; omega)) (G1.fr g1 F (fun c z => by unfold inT; first | omega | (dsimp only at z; omega)) k99_0 (fun k h1 h2 => (x2.1 k h1 (by omega)).trans (congrFun (f1 99 (by first | decide | omega | (dsimp only; omega))) k)) (fun j _ => congrFun ((f2 101 (by first | decide | omega | (dsimp only; omega))).trans (f1 101 (by first | decide | omega | (dsimp only; omega)))) j)) (G2.fr g2 ((f2 7 (by first | decide | omega | (dsimp only; omega))).trans (f1 7 (by first | decide | omega | (dsimp only; omega)))) (by omega) (by omega) (fun k h1 h2 => (x2.1 k h1 (by omega)).trans (congrFun (f1 99 (by first | decide | omega | (dsimp only; omega))) k))) (RFR.s2 rf ha_ hrr k0_10 x1.1 x2.2.1 (f2 96 (by first | decide | omega | (dsimp only; omega))) x1.2 (f1 98 (by first | decide | omega | (dsimp only; omega))) x2.2.2) ⟨by omega, by omega⟩ (by omega)
  exact hk M2 hR2 ic2 im2 ⟨by unfold CR at cr ⊢; omega, wr2, gr2⟩
set_option maxHeartbeats 4000000 in
set_option maxRecDepth 100000 in
theorem law_c28 (X : Cx) (b L : Nat) (xs : Nat → Int32) (C N : Nat) (hC : C + 0 ≤ 600000) (hN : N + 0 ≤ 7302249) (i : Int) (M : Mm) (hR : Rg M) (ic : IC M) (im : IM M) (crx : CX M) (h0 : 0 ≤ i) (h1 : i + 7 ≤ L) (hL : L ≤ 3584) (hk : ∀ M' : Mm, Rg M' → IC M' → IM M' → CX M' → J X.1 RL cL_law 4 ret (ELW X M' b L xs) C N Zl 1429 [(3, vi i), (2, vr X 97), (1, vr X 0), (0, .ref b)] []) : J X.1 RL cL_law 4 ret (ELW X M b L xs) C N Zl 1152 [(3, vi i), (2, vr X 97), (1, vr X 0), (0, .ref b)] [] := by
  have cr := crx.1
  have wr := crx.2.1
  have gr := crx.2.2
  have bb := ICb ic
  refine j_aload (pc' := 1153) 2 dL_law_1152 rfl rfl ?_
  refine j_aload (pc' := 1154) 3 dL_law_1153 rfl rfl ?_
  refine j_iload_n (pc' := 1155) 0 dL_law_1154 rfl rfl ?_
  refine j_iconst (pc' := 1156) dL_law_1155 rfl ?_
  refine j_iadd (pc' := 1157) dL_law_1156 rfl ?_
  refine w_sld (pc' := 1158) dL_law_1157 rfl (by omega) (by omega) ?_
  refine w_call hC hN hR (pc' := 1161) (As := [vi (sx xs (i + 1))]) (o := 0) (S := []) dL_law_1158 rfl m_L_134 w_X9_drink (c_X9_drink_x X M ic (sx xs (i + 1)) (sx_in xs (i + 1))) rfl ⟨_, _, _, rfl, rfl, rfl⟩ (Nat.le_of_ble_eq_true rfl) (Nat.le_of_ble_eq_true rfl) rfl (Nat.le_of_ble_eq_true rfl) (fun v M1 hq hR1 => ?_)
  obtain ⟨r1, rfl, ic1, f1, e1_0, e1_1, e1_2, e1_3, e1_4, e1_5, e1_6, e1_7, e1_8, e1_9, e1_10, e1_11, e1_12, e1_13, e1_14, e1_15, e1_16, p1⟩ := hq
  have im1 : IM M1 := IM.fr im f1 (fun c z => by first | omega | (dsimp only at z; omega))
  have fd1 := frD (Fr.tr Fr.rf f1 fi_93)
  have x1 := p1.2
  replace p1 := p1.1
  have wr1 : TR M1 := TR.fr wr (f1 32 (by decide)) (f1 106 (by decide)) (by omega) (by omega) (congrFun (f1 97 (by decide)) 17)
  show J X.1 RL cL_law 4 ret (ELW X M1 b L xs) C N Zl 1161 [(3, vi i), (2, vr X 97), (1, vr X 0), (0, .ref b)] [vi r1]
  refine j_pop (pc' := 1162) dL_law_1161 rfl rfl ?_
  refine j_aload (pc' := 1163) 1 dL_law_1162 rfl rfl ?_
  refine j_aload (pc' := 1164) 3 dL_law_1163 rfl rfl ?_
  refine j_iload_n (pc' := 1165) 0 dL_law_1164 rfl rfl ?_
  refine j_iconst (pc' := 1166) dL_law_1165 rfl ?_
  refine j_iadd (pc' := 1167) dL_law_1166 rfl ?_
  refine w_sld (pc' := 1168) dL_law_1167 rfl (by omega) (by omega) ?_
  refine w_call hC hN hR1 (pc' := 1171) (As := [vi (sx xs (i + 1))]) (o := 97) (S := []) dL_law_1168 rfl m_L_137 w_X10_drink (c_X10_drink_x X M1 im1 (sx xs (i + 1)) (sx_in xs (i + 1))) rfl ⟨_, _, _, rfl, rfl, rfl⟩ (Nat.le_of_ble_eq_true rfl) (Nat.le_of_ble_eq_true rfl) rfl (Nat.le_of_ble_eq_true rfl) (fun v M2 hq hR2 => ?_)
  obtain ⟨r2, rfl, im2, f2, e2_0, e2_1, e2_2, e2_3, e2_4, e2_5, e2_6, e2_7, e2_8, e2_9, e2_10, e2_11, e2_12, e2_13, e2_14, e2_15, e2_16, e2_17, p2⟩ := hq
  have ic2 : IC M2 := IC.fr ic1 f2 (fun c z => by unfold free isT; first | omega | (dsimp only at z; omega))
  have fd2 := frC (Fr.tr Fr.rf f2 fi_77)
  have x2 := p2.2
  replace p2 := p2.1
  have wr2 : TR M2 := TR.fr wr1 (f2 32 (by decide)) (f2 106 (by decide)) (by omega) (congrFun (f2 0 (by decide)) 12) (by omega)
  show J X.1 RL cL_law 4 ret (ELW X M2 b L xs) C N Zl 1171 [(3, vi i), (2, vr X 97), (1, vr X 0), (0, .ref b)] [vi r2]
  refine j_pop (pc' := 1172) dL_law_1171 rfl rfl ?_
  refine j_goto (tgt := 1429) dL_law_1172 rfl ?_
  have F := Fr.tr (P := fun c => (fun c => c = 1 ∨ c = 9 ∨ c = 0 ∨ c = 96) c ∨ (fun c => c = 97 ∨ c = 98 ∨ c = 99) c) (Fr.tr Fr.rf f1 (fun c z => Or.inl z)) f2 (fun c z => Or.inr z)
  have k0_10 : M2 0 10 = M1 0 10 := congrFun (f2 0 (by first | decide | omega | (dsimp only; omega))) 10
  have k0_11 : M2 0 11 = M1 0 11 := congrFun (f2 0 (by first | decide | omega | (dsimp only; omega))) 11
  have k0_12 : M2 0 12 = M1 0 12 := congrFun (f2 0 (by first | decide | omega | (dsimp only; omega))) 12
  have k0_13 : M2 0 13 = M1 0 13 := congrFun (f2 0 (by first | decide | omega | (dsimp only; omega))) 13
  have k97_1 : M1 97 1 = M 97 1 := congrFun (f1 97 (by first | decide | omega | (dsimp only; omega))) 1
  have k97_10 : M1 97 10 = M 97 10 := congrFun (f1 97 (by first | decide | omega | (dsimp only; omega))) 10
  have k97_17 : M1 97 17 = M 97 17 := congrFun (f1 97 (by first | decide | omega | (dsimp only; omega))) 17
  have k97_33 : M1 97 33 = M 97 33 := congrFun (f1 97 (by first | decide | omega | (dsimp only; omega))) 33
  have k97_44 : M1 97 44 = M 97 44 := congrFun (f1 97 (by first | decide | omega | (dsimp only; omega))) 44
  obtain ⟨g1, g2, g3, g4, rf, ⟨g6a, g6b⟩, g7_⟩ := gr
  have k99_0 : M2 99 0 = M 99 0 := by omega
  have hrr : r1 = r2 := (by unfold CR at cr; omega)
  have ha_ : -6 ≤ r2 := by unfold CR at cr; omega
  have gr2 : GR M2 := GR.k ⟨g1, g2, g3, g4, rf, ⟨g6a, g6b⟩, g7_⟩ F (fun c z => by unfold inT; first | omega | (dsimp only at z; omega)) (G1.fr g1 F (fun c z => by unfold inT; first | omega | (dsimp only at z; omega)) k99_0 (fun k h1 h2 => (x2.1 k h1 (by omega)).trans (congrFun (f1 99 (by first | decide | omega | (dsimp only; omega))) k)) (fun j _ => congrFun ((f2 101 (by first | decide | omega | (dsimp only; omega))).trans (f1 101 (by first | decide | omega | (dsimp only; omega)))) j)) (G2.fr g2 ((f2 7 (by first | decide | omega | (dsimp only; omega))).trans (f1 7 (by first | decide | omega | (dsimp only; omega)))) (by omega) (by omega) (fun k h1 h2 => (x2.1 k h1 (by omega)).trans (congrFun (f1 99 (by first | decide | omega | (dsimp only; omega))) k))) (RFR.s2 rf ha_ hrr k0_10 x1.1 x2.2.1 (f2 96 (by first | decide | omega | (dsimp only; omega))) x1.2 (f1 98 (by first | decide | omega | (dsimp only; omega))) x2.2.2) ⟨by omega, by omega⟩ (by omega)
  exact hk M2 hR2 ic2 im2 ⟨by unfold CR at cr ⊢; omega, wr2, gr2⟩
set_option maxHeartbeats 4000000 in
set_option maxRecDepth 100000 in
theorem law_c29 (X : Cx) (b L : Nat) (xs : Nat → Int32) (C N : Nat) (hC : C + 0 ≤ 600000) (hN : N + 0 ≤ 7302249) (i : Int) (M : Mm) (hR : Rg M) (ic : IC M) (im : IM M) (crx : CX M) (h0 : 0 ≤ i) (h1 : i + 7 ≤ L) (hL : L ≤ 3584) (hk : ∀ M' : Mm, Rg M' → IC M' → IM M' → CX M' → J X.1 RL cL_law 4 ret (ELW X M' b L xs) C N Zl 1429 [(3, vi i), (2, vr X 97), (1, vr X 0), (0, .ref b)] []) : J X.1 RL cL_law 4 ret (ELW X M b L xs) C N Zl 1175 [(3, vi i), (2, vr X 97), (1, vr X 0), (0, .ref b)] [] := by
  have cr := crx.1
  have wr := crx.2.1
  have gr := crx.2.2
  have bb := ICb ic
  refine j_aload (pc' := 1176) 2 dL_law_1175 rfl rfl ?_
  refine j_aload (pc' := 1177) 3 dL_law_1176 rfl rfl ?_
  refine j_iload_n (pc' := 1178) 0 dL_law_1177 rfl rfl ?_
  refine j_iconst (pc' := 1179) dL_law_1178 rfl ?_
  refine j_iadd (pc' := 1180) dL_law_1179 rfl ?_
  refine w_sld (pc' := 1181) dL_law_1180 rfl (by omega) (by omega) ?_
  refine j_aload (pc' := 1182) 3 dL_law_1181 rfl rfl ?_
  refine j_iload_n (pc' := 1183) 0 dL_law_1182 rfl rfl ?_
  refine j_iconst (pc' := 1184) dL_law_1183 rfl ?_
  refine j_iadd (pc' := 1185) dL_law_1184 rfl ?_
  refine w_sld (pc' := 1186) dL_law_1185 rfl (by omega) (by omega) ?_
  refine j_aload (pc' := 1187) 3 dL_law_1186 rfl rfl ?_
  refine j_iload_n (pc' := 1188) 0 dL_law_1187 rfl rfl ?_
  refine j_iconst (pc' := 1189) dL_law_1188 rfl ?_
  refine j_iadd (pc' := 1190) dL_law_1189 rfl ?_
  refine w_sld (pc' := 1191) dL_law_1190 rfl (by omega) (by omega) ?_
  refine w_call hC hN hR (pc' := 1194) (As := [vi (sx xs (i + 1)), vi (sx xs (i + 2)), vi (sx xs (i + 3))]) (o := 0) (S := []) dL_law_1191 rfl m_L_138 w_X9_mix (c_X9_mix X M ic (sx xs (i + 1)) (sx_in xs (i + 1)) (sx xs (i + 2)) (sx_in xs (i + 2)) (sx xs (i + 3)) (sx_in xs (i + 3))) rfl ⟨_, _, _, rfl, rfl, rfl⟩ (Nat.le_of_ble_eq_true rfl) (Nat.le_of_ble_eq_true rfl) rfl (Nat.le_of_ble_eq_true rfl) (fun v M1 hq hR1 => ?_)
  obtain ⟨r1, rfl, ic1, f1, e1_0, e1_1, e1_2, e1_3, e1_4, e1_5, e1_6, e1_7, e1_8, e1_9, e1_10, e1_11, e1_12, e1_13, e1_14, e1_15, e1_16, e1_17, e1_18, p1⟩ := hq
  have im1 : IM M1 := IM.fr im f1 (fun c z => by first | omega | (dsimp only at z; omega))
  have fd1 := frD (Fr.tr Fr.rf f1 fi_94)
  have wr1 : TR M1 := TR.fr wr (f1 32 (by decide)) (f1 106 (by decide)) (by omega) (by omega) (congrFun (f1 97 (by decide)) 17)
  show J X.1 RL cL_law 4 ret (ELW X M1 b L xs) C N Zl 1194 [(3, vi i), (2, vr X 97), (1, vr X 0), (0, .ref b)] [vi r1]
  refine j_pop (pc' := 1195) dL_law_1194 rfl rfl ?_
  refine j_aload (pc' := 1196) 1 dL_law_1195 rfl rfl ?_
  refine j_aload (pc' := 1197) 3 dL_law_1196 rfl rfl ?_
  refine j_iload_n (pc' := 1198) 0 dL_law_1197 rfl rfl ?_
  refine j_iconst (pc' := 1199) dL_law_1198 rfl ?_
  refine j_iadd (pc' := 1200) dL_law_1199 rfl ?_
  refine w_sld (pc' := 1201) dL_law_1200 rfl (by omega) (by omega) ?_
  refine j_aload (pc' := 1202) 3 dL_law_1201 rfl rfl ?_
  refine j_iload_n (pc' := 1203) 0 dL_law_1202 rfl rfl ?_
  refine j_iconst (pc' := 1204) dL_law_1203 rfl ?_
  refine j_iadd (pc' := 1205) dL_law_1204 rfl ?_
  refine w_sld (pc' := 1206) dL_law_1205 rfl (by omega) (by omega) ?_
  refine j_aload (pc' := 1207) 3 dL_law_1206 rfl rfl ?_
  refine j_iload_n (pc' := 1208) 0 dL_law_1207 rfl rfl ?_
  refine j_iconst (pc' := 1209) dL_law_1208 rfl ?_
  refine j_iadd (pc' := 1210) dL_law_1209 rfl ?_
  refine w_sld (pc' := 1211) dL_law_1210 rfl (by omega) (by omega) ?_
  refine w_call hC hN hR1 (pc' := 1214) (As := [vi (sx xs (i + 1)), vi (sx xs (i + 2)), vi (sx xs (i + 3))]) (o := 97) (S := []) dL_law_1211 rfl m_L_141 w_X10_mix (c_X10_mix X M1 im1 (sx xs (i + 1)) (sx_in xs (i + 1)) (sx xs (i + 2)) (sx_in xs (i + 2)) (sx xs (i + 3)) (sx_in xs (i + 3))) rfl ⟨_, _, _, rfl, rfl, rfl⟩ (Nat.le_of_ble_eq_true rfl) (Nat.le_of_ble_eq_true rfl) rfl (Nat.le_of_ble_eq_true rfl) (fun v M2 hq hR2 => ?_)
  obtain ⟨r2, rfl, im2, f2, e2_0, e2_1, e2_2, e2_3, e2_4, e2_5, e2_6, e2_7, e2_8, e2_9, e2_10, e2_11, e2_12, e2_13, e2_14, e2_15, e2_16, e2_17, e2_18, e2_19, p2⟩ := hq
  have ic2 : IC M2 := IC.fr ic1 f2 (fun c z => by unfold free isT; first | omega | (dsimp only at z; omega))
  have fd2 := frC (Fr.tr Fr.rf f2 fi_95)
  have wr2 : TR M2 := TR.fr wr1 (f2 32 (by decide)) (f2 106 (by decide)) (by omega) (congrFun (f2 0 (by decide)) 12) (by omega)
  show J X.1 RL cL_law 4 ret (ELW X M2 b L xs) C N Zl 1214 [(3, vi i), (2, vr X 97), (1, vr X 0), (0, .ref b)] [vi r2]
  refine j_pop (pc' := 1215) dL_law_1214 rfl rfl ?_
  refine j_goto (tgt := 1429) dL_law_1215 rfl ?_
  have F := Fr.tr (P := fun c => (fun c => (84 ≤ c ∧ c ≤ 90)) c ∨ (fun c => c = 97 ∨ c = 115) c) (Fr.tr Fr.rf f1 (fun c z => Or.inl z)) f2 (fun c z => Or.inr z)
  have k0_10 : M2 0 10 = M1 0 10 := congrFun (f2 0 (by first | decide | omega | (dsimp only; omega))) 10
  have k0_11 : M2 0 11 = M1 0 11 := congrFun (f2 0 (by first | decide | omega | (dsimp only; omega))) 11
  have k0_12 : M2 0 12 = M1 0 12 := congrFun (f2 0 (by first | decide | omega | (dsimp only; omega))) 12
  have k0_13 : M2 0 13 = M1 0 13 := congrFun (f2 0 (by first | decide | omega | (dsimp only; omega))) 13
  have k97_1 : M1 97 1 = M 97 1 := congrFun (f1 97 (by first | decide | omega | (dsimp only; omega))) 1
  have k97_10 : M1 97 10 = M 97 10 := congrFun (f1 97 (by first | decide | omega | (dsimp only; omega))) 10
  have k97_17 : M1 97 17 = M 97 17 := congrFun (f1 97 (by first | decide | omega | (dsimp only; omega))) 17
  have k97_33 : M1 97 33 = M 97 33 := congrFun (f1 97 (by first | decide | omega | (dsimp only; omega))) 33
  have k97_44 : M1 97 44 = M 97 44 := congrFun (f1 97 (by first | decide | omega | (dsimp only; omega))) 44
  obtain ⟨g1, g2, g3, g4, rf, ⟨g6a, g6b⟩, g7_⟩ := gr
  have k99_0 : M2 99 0 = M 99 0 := congrFun ((f2 99 (by first | decide | omega | (dsimp only; omega))).trans (f1 99 (by first | decide | omega | (dsimp only; omega)))) 0
  have gr2 : GR M2 := GR.k ⟨g1, g2, g3, g4, rf, ⟨g6a, g6b⟩, g7_⟩ F (fun c z => by unfold inT; first | omega | (dsimp only at z; omega)) (G1.fr g1 F (fun c z => by unfold inT; first | omega | (dsimp only at z; omega)) k99_0 (fun k _ _ => congrFun ((f2 99 (by first | decide | omega | (dsimp only; omega))).trans (f1 99 (by first | decide | omega | (dsimp only; omega)))) k) (fun j _ => congrFun ((f2 101 (by first | decide | omega | (dsimp only; omega))).trans (f1 101 (by first | decide | omega | (dsimp only; omega)))) j)) (G2.fr g2 ((f2 7 (by first | decide | omega | (dsimp only; omega))).trans (f1 7 (by first | decide | omega | (dsimp only; omega)))) (by omega) (by omega) (fun k _ _ => congrFun ((f2 99 (by first | decide | omega | (dsimp only; omega))).trans (f1 99 (by first | decide | omega | (dsimp only; omega)))) k)) (RFR.fr rf (by omega) (by omega) ((f2 96 (by first | decide | omega | (dsimp only; omega))).trans (f1 96 (by first | decide | omega | (dsimp only; omega)))) ((f2 98 (by first | decide | omega | (dsimp only; omega))).trans (f1 98 (by first | decide | omega | (dsimp only; omega))))) ⟨by omega, by omega⟩ (by omega)
  exact hk M2 hR2 ic2 im2 ⟨by unfold CR at cr ⊢; omega, wr2, gr2⟩
set_option maxHeartbeats 4000000 in
set_option maxRecDepth 100000 in
theorem law_c30 (X : Cx) (b L : Nat) (xs : Nat → Int32) (C N : Nat) (hC : C + 0 ≤ 600000) (hN : N + 0 ≤ 7302249) (i : Int) (M : Mm) (hR : Rg M) (ic : IC M) (im : IM M) (crx : CX M) (h0 : 0 ≤ i) (h1 : i + 7 ≤ L) (hL : L ≤ 3584) (hk : ∀ M' : Mm, Rg M' → IC M' → IM M' → CX M' → J X.1 RL cL_law 4 ret (ELW X M' b L xs) C N Zl 1429 [(3, vi i), (2, vr X 97), (1, vr X 0), (0, .ref b)] []) : J X.1 RL cL_law 4 ret (ELW X M b L xs) C N Zl 1218 [(3, vi i), (2, vr X 97), (1, vr X 0), (0, .ref b)] [] := by
  have cr := crx.1
  have wr := crx.2.1
  have gr := crx.2.2
  have bb := ICb ic
  refine j_aload (pc' := 1219) 2 dL_law_1218 rfl rfl ?_
  refine j_aload (pc' := 1220) 3 dL_law_1219 rfl rfl ?_
  refine j_iload_n (pc' := 1221) 0 dL_law_1220 rfl rfl ?_
  refine j_iconst (pc' := 1222) dL_law_1221 rfl ?_
  refine j_iadd (pc' := 1223) dL_law_1222 rfl ?_
  refine w_sld (pc' := 1224) dL_law_1223 rfl (by omega) (by omega) ?_
  refine j_aload (pc' := 1225) 3 dL_law_1224 rfl rfl ?_
  refine j_iload_n (pc' := 1226) 0 dL_law_1225 rfl rfl ?_
  refine j_iconst (pc' := 1227) dL_law_1226 rfl ?_
  refine j_iadd (pc' := 1228) dL_law_1227 rfl ?_
  refine w_sld (pc' := 1229) dL_law_1228 rfl (by omega) (by omega) ?_
  refine j_aload (pc' := 1230) 3 dL_law_1229 rfl rfl ?_
  refine j_iload_n (pc' := 1231) 0 dL_law_1230 rfl rfl ?_
  refine j_iconst (pc' := 1232) dL_law_1231 rfl ?_
  refine j_iadd (pc' := 1233) dL_law_1232 rfl ?_
  refine w_sld (pc' := 1234) dL_law_1233 rfl (by omega) (by omega) ?_
  refine j_aload (pc' := 1235) 3 dL_law_1234 rfl rfl ?_
  refine j_iload_n (pc' := 1236) 0 dL_law_1235 rfl rfl ?_
  refine j_iconst (pc' := 1237) dL_law_1236 rfl ?_
  refine j_iadd (pc' := 1238) dL_law_1237 rfl ?_
  refine w_sld (pc' := 1239) dL_law_1238 rfl (by omega) (by omega) ?_
  refine j_aload (pc' := 1240) 3 dL_law_1239 rfl rfl ?_
  refine j_iload_n (pc' := 1241) 0 dL_law_1240 rfl rfl ?_
  refine j_iconst (pc' := 1242) dL_law_1241 rfl ?_
  refine j_iadd (pc' := 1243) dL_law_1242 rfl ?_
  refine w_sld (pc' := 1244) dL_law_1243 rfl (by omega) (by omega) ?_
  refine w_call hC hN hR (pc' := 1247) (As := [vi (sx xs (i + 1)), vi (sx xs (i + 2)), vi (sx xs (i + 3)), vi (sx xs (i + 4)), vi (sx xs (i + 5))]) (o := 0) (S := []) dL_law_1244 rfl m_L_142 w_X9_cards (c_X9_cards X M ic (sx xs (i + 1)) (sx_in xs (i + 1)) (sx xs (i + 2)) (sx_in xs (i + 2)) (sx xs (i + 3)) (sx_in xs (i + 3)) (sx xs (i + 4)) (sx_in xs (i + 4)) (sx xs (i + 5)) (sx_in xs (i + 5))) rfl ⟨_, _, _, rfl, rfl, rfl⟩ (Nat.le_of_ble_eq_true rfl) (Nat.le_of_ble_eq_true rfl) rfl (Nat.le_of_ble_eq_true rfl) (fun v M1 hq hR1 => ?_)
  obtain ⟨r1, rfl, e1, p1⟩ := hq
  rw [e1]
  show J X.1 RL cL_law 4 ret (ELW X M b L xs) C N Zl 1247 [(3, vi i), (2, vr X 97), (1, vr X 0), (0, .ref b)] [vl r1]
  refine j_pop2 (pc' := 1248) dL_law_1247 rfl rfl ?_
  refine j_aload (pc' := 1249) 1 dL_law_1248 rfl rfl ?_
  refine j_aload (pc' := 1250) 3 dL_law_1249 rfl rfl ?_
  refine j_iload_n (pc' := 1251) 0 dL_law_1250 rfl rfl ?_
  refine j_iconst (pc' := 1252) dL_law_1251 rfl ?_
  refine j_iadd (pc' := 1253) dL_law_1252 rfl ?_
  refine w_sld (pc' := 1254) dL_law_1253 rfl (by omega) (by omega) ?_
  refine j_aload (pc' := 1255) 3 dL_law_1254 rfl rfl ?_
  refine j_iload_n (pc' := 1256) 0 dL_law_1255 rfl rfl ?_
  refine j_iconst (pc' := 1257) dL_law_1256 rfl ?_
  refine j_iadd (pc' := 1258) dL_law_1257 rfl ?_
  refine w_sld (pc' := 1259) dL_law_1258 rfl (by omega) (by omega) ?_
  refine j_aload (pc' := 1260) 3 dL_law_1259 rfl rfl ?_
  refine j_iload_n (pc' := 1261) 0 dL_law_1260 rfl rfl ?_
  refine j_iconst (pc' := 1262) dL_law_1261 rfl ?_
  refine j_iadd (pc' := 1263) dL_law_1262 rfl ?_
  refine w_sld (pc' := 1264) dL_law_1263 rfl (by omega) (by omega) ?_
  refine j_aload (pc' := 1265) 3 dL_law_1264 rfl rfl ?_
  refine j_iload_n (pc' := 1266) 0 dL_law_1265 rfl rfl ?_
  refine j_iconst (pc' := 1267) dL_law_1266 rfl ?_
  refine j_iadd (pc' := 1268) dL_law_1267 rfl ?_
  refine w_sld (pc' := 1269) dL_law_1268 rfl (by omega) (by omega) ?_
  refine j_aload (pc' := 1270) 3 dL_law_1269 rfl rfl ?_
  refine j_iload_n (pc' := 1271) 0 dL_law_1270 rfl rfl ?_
  refine j_iconst (pc' := 1272) dL_law_1271 rfl ?_
  refine j_iadd (pc' := 1273) dL_law_1272 rfl ?_
  refine w_sld (pc' := 1274) dL_law_1273 rfl (by omega) (by omega) ?_
  refine w_call hC hN hR (pc' := 1277) (As := [vi (sx xs (i + 1)), vi (sx xs (i + 2)), vi (sx xs (i + 3)), vi (sx xs (i + 4)), vi (sx xs (i + 5))]) (o := 97) (S := []) dL_law_1274 rfl m_L_146 w_X10_cards (c_X10_cards X M im (sx xs (i + 1)) (sx_in xs (i + 1)) (sx xs (i + 2)) (sx_in xs (i + 2)) (sx xs (i + 3)) (sx_in xs (i + 3)) (sx xs (i + 4)) (sx_in xs (i + 4)) (sx xs (i + 5)) (sx_in xs (i + 5))) rfl ⟨_, _, _, rfl, rfl, rfl⟩ (Nat.le_of_ble_eq_true rfl) (Nat.le_of_ble_eq_true rfl) rfl (Nat.le_of_ble_eq_true rfl) (fun v M2 hq hR2 => ?_)
  obtain ⟨r2, rfl, im2, f2, e2_0, e2_1, e2_2, e2_3, e2_4, e2_5, e2_6, e2_7, e2_8, e2_9, e2_10, e2_11, e2_12, e2_13, e2_14, e2_15, e2_16, e2_17, e2_18, e2_19, p2⟩ := hq
  have ic2 : IC M2 := IC.fr ic f2 (fun c z => by unfold free isT; first | omega | (dsimp only at z; omega))
  have fd2 := frC (Fr.tr Fr.rf f2 fi_78)
  have wr2 : TR M2 := TR.fr wr (f2 32 (by decide)) (f2 106 (by decide)) (by omega) (congrFun (f2 0 (by decide)) 12) (by omega)
  show J X.1 RL cL_law 4 ret (ELW X M2 b L xs) C N Zl 1277 [(3, vi i), (2, vr X 97), (1, vr X 0), (0, .ref b)] [vl r2]
  refine j_pop2 (pc' := 1278) dL_law_1277 rfl rfl ?_
  refine j_goto (tgt := 1429) dL_law_1278 rfl ?_
  have F := f2
  have k0_10 : M2 0 10 = M 0 10 := congrFun (f2 0 (by first | decide | omega | (dsimp only; omega))) 10
  have k0_11 : M2 0 11 = M 0 11 := congrFun (f2 0 (by first | decide | omega | (dsimp only; omega))) 11
  have k0_12 : M2 0 12 = M 0 12 := congrFun (f2 0 (by first | decide | omega | (dsimp only; omega))) 12
  have k0_13 : M2 0 13 = M 0 13 := congrFun (f2 0 (by first | decide | omega | (dsimp only; omega))) 13
  obtain ⟨g1, g2, g3, g4, rf, ⟨g6a, g6b⟩, g7_⟩ := gr
  have k99_0 : M2 99 0 = M 99 0 := congrFun (f2 99 (by first | decide | omega | (dsimp only; omega))) 0
  have gr2 : GR M2 := GR.k ⟨g1, g2, g3, g4, rf, ⟨g6a, g6b⟩, g7_⟩ F (fun c z => by unfold inT; first | omega | (dsimp only at z; omega)) (G1.fr g1 F (fun c z => by unfold inT; first | omega | (dsimp only at z; omega)) k99_0 (fun k _ _ => congrFun (f2 99 (by first | decide | omega | (dsimp only; omega))) k) (fun j _ => congrFun (f2 101 (by first | decide | omega | (dsimp only; omega))) j)) (G2.fr g2 (f2 7 (by first | decide | omega | (dsimp only; omega))) (by omega) (by omega) (fun k _ _ => congrFun (f2 99 (by first | decide | omega | (dsimp only; omega))) k)) (RFR.fr rf (by omega) (by omega) (f2 96 (by first | decide | omega | (dsimp only; omega))) (f2 98 (by first | decide | omega | (dsimp only; omega)))) ⟨by omega, by omega⟩ (by omega)
  exact hk M2 hR2 ic2 im2 ⟨by unfold CR at cr ⊢; omega, wr2, gr2⟩
set_option maxHeartbeats 4000000 in
set_option maxRecDepth 100000 in
theorem law_c31 (X : Cx) (b L : Nat) (xs : Nat → Int32) (C N : Nat) (hC : C + 0 ≤ 600000) (hN : N + 0 ≤ 7302249) (i : Int) (M : Mm) (hR : Rg M) (ic : IC M) (im : IM M) (crx : CX M) (h0 : 0 ≤ i) (h1 : i + 7 ≤ L) (hL : L ≤ 3584) (hk : ∀ M' : Mm, Rg M' → IC M' → IM M' → CX M' → J X.1 RL cL_law 4 ret (ELW X M' b L xs) C N Zl 1429 [(3, vi i), (2, vr X 97), (1, vr X 0), (0, .ref b)] []) : J X.1 RL cL_law 4 ret (ELW X M b L xs) C N Zl 1281 [(3, vi i), (2, vr X 97), (1, vr X 0), (0, .ref b)] [] := by
  have cr := crx.1
  have wr := crx.2.1
  have gr := crx.2.2
  have bb := ICb ic
  refine j_aload (pc' := 1282) 2 dL_law_1281 rfl rfl ?_
  refine j_aload (pc' := 1283) 3 dL_law_1282 rfl rfl ?_
  refine j_iload_n (pc' := 1284) 0 dL_law_1283 rfl rfl ?_
  refine j_iconst (pc' := 1285) dL_law_1284 rfl ?_
  refine j_iadd (pc' := 1286) dL_law_1285 rfl ?_
  refine w_sld (pc' := 1287) dL_law_1286 rfl (by omega) (by omega) ?_
  refine j_aload (pc' := 1288) 3 dL_law_1287 rfl rfl ?_
  refine j_iload_n (pc' := 1289) 0 dL_law_1288 rfl rfl ?_
  refine j_iconst (pc' := 1290) dL_law_1289 rfl ?_
  refine j_iadd (pc' := 1291) dL_law_1290 rfl ?_
  refine w_sld (pc' := 1292) dL_law_1291 rfl (by omega) (by omega) ?_
  obtain ⟨ta, tb, P, Lq, F, Z, tv, pub⟩ := gr.1
  refine w_call hC hN hR (pc' := 1295) (As := [vi (sx xs (i + 1)), vi (sx xs (i + 2))]) (o := 0) (S := []) dL_law_1292 rfl m_L_147 w_X9_night (c_X9_night_x X M ic (sx xs (i + 1)) (sx_in xs (i + 1)) (sx xs (i + 2)) (sx_in xs (i + 2)) ta tb (M 99 0) P Lq F Z (M 101) (fun j => M 99 (4 + j)) tv pub (IM.sz6 im) (G2.w gr.2.1 im (by unfold CR at cr; omega))) rfl ⟨_, _, _, rfl, rfl, rfl⟩ (Nat.le_of_ble_eq_true rfl) (Nat.le_of_ble_eq_true rfl) rfl (Nat.le_of_ble_eq_true rfl) (fun v M1 hq hR1 => ?_)
  obtain ⟨r1, rfl, ic1, f1, e1_0, e1_1, e1_2, e1_3, e1_4, e1_5, e1_6, e1_7, e1_8, e1_9, e1_10, e1_11, e1_12, e1_13, e1_14, e1_15, e1_16, e1_17, p1⟩ := hq
  have im1 : IM M1 := IM.fr im f1 (fun c z => by first | omega | (dsimp only at z; omega))
  have fd1 := frD (Fr.tr Fr.rf f1 fi_96)
  have wr1 : TR M1 := TR.fr wr (f1 32 (by decide)) (f1 106 (by decide)) (by omega) (by omega) (congrFun (f1 97 (by decide)) 17)
  show J X.1 RL cL_law 4 ret (ELW X M1 b L xs) C N Zl 1295 [(3, vi i), (2, vr X 97), (1, vr X 0), (0, .ref b)] [vi r1]
  refine j_pop (pc' := 1296) dL_law_1295 rfl rfl ?_
  refine j_aload (pc' := 1297) 1 dL_law_1296 rfl rfl ?_
  refine j_aload (pc' := 1298) 3 dL_law_1297 rfl rfl ?_
  refine j_iload_n (pc' := 1299) 0 dL_law_1298 rfl rfl ?_
  refine j_iconst (pc' := 1300) dL_law_1299 rfl ?_
  refine j_iadd (pc' := 1301) dL_law_1300 rfl ?_
  refine w_sld (pc' := 1302) dL_law_1301 rfl (by omega) (by omega) ?_
  refine j_aload (pc' := 1303) 3 dL_law_1302 rfl rfl ?_
  refine j_iload_n (pc' := 1304) 0 dL_law_1303 rfl rfl ?_
  refine j_iconst (pc' := 1305) dL_law_1304 rfl ?_
  refine j_iadd (pc' := 1306) dL_law_1305 rfl ?_
  refine w_sld (pc' := 1307) dL_law_1306 rfl (by omega) (by omega) ?_
  refine w_call hC hN hR1 (pc' := 1310) (As := [vi (sx xs (i + 1)), vi (sx xs (i + 2))]) (o := 97) (S := []) dL_law_1307 rfl m_L_150 w_X10_night (c_X10_night_x X M1 im1 (sx xs (i + 1)) (sx_in xs (i + 1)) (sx xs (i + 2)) (sx_in xs (i + 2))) rfl ⟨_, _, _, rfl, rfl, rfl⟩ (Nat.le_of_ble_eq_true rfl) (Nat.le_of_ble_eq_true rfl) rfl (Nat.le_of_ble_eq_true rfl) (fun v M2 hq hR2 => ?_)
  obtain ⟨r2, rfl, im2, f2, e2_0, e2_1, e2_2, e2_3, e2_4, e2_5, e2_6, e2_7, e2_8, e2_9, e2_10, e2_11, e2_12, e2_13, e2_14, e2_15, e2_16, e2_17, p2⟩ := hq
  have ic2 : IC M2 := IC.fr ic1 f2 (fun c z => by unfold free isT; first | omega | (dsimp only at z; omega))
  have fd2 := frC (Fr.tr Fr.rf f2 fi_97)
  have wr2 : TR M2 := TR.fr wr1 (f2 32 (by decide)) (f2 106 (by decide)) (by omega) (congrFun (f2 0 (by decide)) 12) (by omega)
  show J X.1 RL cL_law 4 ret (ELW X M2 b L xs) C N Zl 1310 [(3, vi i), (2, vr X 97), (1, vr X 0), (0, .ref b)] [vi r2]
  refine j_pop (pc' := 1311) dL_law_1310 rfl rfl ?_
  refine j_goto (tgt := 1429) dL_law_1311 rfl ?_
  have F := Fr.tr (P := fun c => (fun c => (91 ≤ c ∧ c ≤ 95) ∨ c = 0 ∨ c = 96) c ∨ (fun c => c = 97 ∨ c = 98 ∨ c = 101 ∨ c = 104 ∨ c = 105 ∨ c = 116) c) (Fr.tr Fr.rf f1 (fun c z => Or.inl z)) f2 (fun c z => Or.inr z)
  have k0_10 : M2 0 10 = M1 0 10 := congrFun (f2 0 (by first | decide | omega | (dsimp only; omega))) 10
  have k0_11 : M2 0 11 = M1 0 11 := congrFun (f2 0 (by first | decide | omega | (dsimp only; omega))) 11
  have k0_12 : M2 0 12 = M1 0 12 := congrFun (f2 0 (by first | decide | omega | (dsimp only; omega))) 12
  have k0_13 : M2 0 13 = M1 0 13 := congrFun (f2 0 (by first | decide | omega | (dsimp only; omega))) 13
  have k97_1 : M1 97 1 = M 97 1 := congrFun (f1 97 (by first | decide | omega | (dsimp only; omega))) 1
  have k97_10 : M1 97 10 = M 97 10 := congrFun (f1 97 (by first | decide | omega | (dsimp only; omega))) 10
  have k97_17 : M1 97 17 = M 97 17 := congrFun (f1 97 (by first | decide | omega | (dsimp only; omega))) 17
  have k97_33 : M1 97 33 = M 97 33 := congrFun (f1 97 (by first | decide | omega | (dsimp only; omega))) 33
  have k97_44 : M1 97 44 = M 97 44 := congrFun (f1 97 (by first | decide | omega | (dsimp only; omega))) 44
  obtain ⟨g1, g2, g3, g4, rf, ⟨g6a, g6b⟩, g7_⟩ := gr
  have k99_0 : M2 99 0 = M 99 0 := congrFun ((f2 99 (by first | decide | omega | (dsimp only; omega))).trans (f1 99 (by first | decide | omega | (dsimp only; omega)))) 0
  obtain ⟨pn0, pn1, pn2, n0_, a0_⟩ := p1
  obtain ⟨qn0, qn1, qn2, qe, qt, qa⟩ := p2
  obtain ⟨hrr, gg7⟩ := GR.night ⟨g1, g2, g3, g4, rf, ⟨g6a, g6b⟩, g7_⟩ im (by unfold CR at cr; omega) (f1 99 (by first | decide | omega | (dsimp only; omega))) (f1 101 (by first | decide | omega | (dsimp only; omega))) f2 (fun c z => by unfold inT; first | omega | (dsimp only at z; omega)) F k97_44 (f1 116 (by first | decide | omega | (dsimp only; omega))) pn1 pn2 qn1 qn2
  have gr2 : GR M2 := ⟨(G1.fr g1 F (fun c z => by unfold inT; first | omega | (dsimp only at z; omega)) k99_0 (fun k _ _ => congrFun ((f2 99 (by first | decide | omega | (dsimp only; omega))).trans (f1 99 (by first | decide | omega | (dsimp only; omega)))) k) (by rw [← show M1 101 = M 101 from (f1 101 (by first | decide | omega | (dsimp only; omega)))]; exact qe)), (G2.fr g2 ((f2 7 (by first | decide | omega | (dsimp only; omega))).trans (f1 7 (by first | decide | omega | (dsimp only; omega)))) (by omega) (by omega) (fun k _ _ => congrFun ((f2 99 (by first | decide | omega | (dsimp only; omega))).trans (f1 99 (by first | decide | omega | (dsimp only; omega)))) k)), (g3.fr F (fun c z => by unfold inT; first | omega | (dsimp only at z; omega)) (by rw [((f2 29 (by first | decide | omega | (dsimp only; omega))).trans (f1 29 (by first | decide | omega | (dsimp only; omega))))]) ((f2 16 (by first | decide | omega | (dsimp only; omega))).trans (f1 16 (by first | decide | omega | (dsimp only; omega)))) (by omega) ((f2 100 (by first | decide | omega | (dsimp only; omega))).trans (f1 100 (by first | decide | omega | (dsimp only; omega)))) ((f2 102 (by first | decide | omega | (dsimp only; omega))).trans (f1 102 (by first | decide | omega | (dsimp only; omega))))), (g4.fr F (fun c z => by unfold inT; first | omega | (dsimp only at z; omega)) (by rw [((f2 29 (by first | decide | omega | (dsimp only; omega))).trans (f1 29 (by first | decide | omega | (dsimp only; omega))))]) ((f2 25 (by first | decide | omega | (dsimp only; omega))).trans (f1 25 (by first | decide | omega | (dsimp only; omega)))) (by omega) ((f2 100 (by first | decide | omega | (dsimp only; omega))).trans (f1 100 (by first | decide | omega | (dsimp only; omega)))) ((f2 102 (by first | decide | omega | (dsimp only; omega))).trans (f1 102 (by first | decide | omega | (dsimp only; omega))))), (RFR.s2 rf (by omega) hrr k0_10 n0_ qt (f2 96 (by first | decide | omega | (dsimp only; omega))) a0_ (f1 98 (by first | decide | omega | (dsimp only; omega))) qa), ⟨by omega, by omega⟩, gg7⟩
  exact hk M2 hR2 ic2 im2 ⟨by unfold CR at cr ⊢; omega, wr2, gr2⟩
set_option maxHeartbeats 4000000 in
set_option maxRecDepth 100000 in
theorem law_c32 (X : Cx) (b L : Nat) (xs : Nat → Int32) (C N : Nat) (hC : C + 0 ≤ 600000) (hN : N + 0 ≤ 7302249) (i : Int) (M : Mm) (hR : Rg M) (ic : IC M) (im : IM M) (crx : CX M) (h0 : 0 ≤ i) (h1 : i + 7 ≤ L) (hL : L ≤ 3584) (hk : ∀ M' : Mm, Rg M' → IC M' → IM M' → CX M' → J X.1 RL cL_law 4 ret (ELW X M' b L xs) C N Zl 1429 [(3, vi i), (2, vr X 97), (1, vr X 0), (0, .ref b)] []) : J X.1 RL cL_law 4 ret (ELW X M b L xs) C N Zl 1314 [(3, vi i), (2, vr X 97), (1, vr X 0), (0, .ref b)] [] := by
  have cr := crx.1
  have wr := crx.2.1
  have gr := crx.2.2
  have bb := ICb ic
  refine j_aload (pc' := 1315) 2 dL_law_1314 rfl rfl ?_
  refine j_aload (pc' := 1316) 3 dL_law_1315 rfl rfl ?_
  refine j_iload_n (pc' := 1317) 0 dL_law_1316 rfl rfl ?_
  refine j_iconst (pc' := 1318) dL_law_1317 rfl ?_
  refine j_iadd (pc' := 1319) dL_law_1318 rfl ?_
  refine w_sld (pc' := 1320) dL_law_1319 rfl (by omega) (by omega) ?_
  refine j_aload (pc' := 1321) 3 dL_law_1320 rfl rfl ?_
  refine j_iload_n (pc' := 1322) 0 dL_law_1321 rfl rfl ?_
  refine j_iconst (pc' := 1323) dL_law_1322 rfl ?_
  refine j_iadd (pc' := 1324) dL_law_1323 rfl ?_
  refine w_sld (pc' := 1325) dL_law_1324 rfl (by omega) (by omega) ?_
  obtain ⟨m7, z7, ⟨ta, tb, P, Lq, F, Z, tv, pap⟩, g7⟩ := gr.2.2.2.2.2.2
  refine w_call hC hN hR (pc' := 1328) (As := [vi (sx xs (i + 1)), vi (sx xs (i + 2))]) (o := 0) (S := []) dL_law_1325 rfl m_L_151 w_X9_drawn (c_X9_drawn_x X M ic (sx xs (i + 1)) (sx_in xs (i + 1)) (sx xs (i + 2)) (sx_in xs (i + 2)) ta tb (M 97 44) P Lq F Z m7 z7 tv pap) rfl ⟨_, _, _, rfl, rfl, rfl⟩ (Nat.le_of_ble_eq_true rfl) (Nat.le_of_ble_eq_true rfl) rfl (Nat.le_of_ble_eq_true rfl) (fun v M1 hq hR1 => ?_)
  obtain ⟨r1, rfl, e1, p1⟩ := hq
  rw [e1]
  show J X.1 RL cL_law 4 ret (ELW X M b L xs) C N Zl 1328 [(3, vi i), (2, vr X 97), (1, vr X 0), (0, .ref b)] [vi r1]
  refine j_pop (pc' := 1329) dL_law_1328 rfl rfl ?_
  refine j_aload (pc' := 1330) 1 dL_law_1329 rfl rfl ?_
  refine j_aload (pc' := 1331) 3 dL_law_1330 rfl rfl ?_
  refine j_iload_n (pc' := 1332) 0 dL_law_1331 rfl rfl ?_
  refine j_iconst (pc' := 1333) dL_law_1332 rfl ?_
  refine j_iadd (pc' := 1334) dL_law_1333 rfl ?_
  refine w_sld (pc' := 1335) dL_law_1334 rfl (by omega) (by omega) ?_
  refine j_aload (pc' := 1336) 3 dL_law_1335 rfl rfl ?_
  refine j_iload_n (pc' := 1337) 0 dL_law_1336 rfl rfl ?_
  refine j_iconst (pc' := 1338) dL_law_1337 rfl ?_
  refine j_iadd (pc' := 1339) dL_law_1338 rfl ?_
  refine w_sld (pc' := 1340) dL_law_1339 rfl (by omega) (by omega) ?_
  refine w_call hC hN hR (pc' := 1343) (As := [vi (sx xs (i + 1)), vi (sx xs (i + 2))]) (o := 97) (S := []) dL_law_1340 rfl m_L_154 w_X10_drawn (c_X10_drawn_x X M im (sx xs (i + 1)) (sx_in xs (i + 1)) (sx xs (i + 2)) (sx_in xs (i + 2))) rfl ⟨_, _, _, rfl, rfl, rfl⟩ (Nat.le_of_ble_eq_true rfl) (Nat.le_of_ble_eq_true rfl) rfl (Nat.le_of_ble_eq_true rfl) (fun v M2 hq hR2 => ?_)
  obtain ⟨r2, rfl, im2, f2, e2_0, e2_1, e2_2, e2_3, e2_4, e2_5, e2_6, e2_7, e2_8, e2_9, e2_10, e2_11, e2_12, e2_13, e2_14, e2_15, e2_16, e2_17, e2_18, e2_19, p2⟩ := hq
  have ic2 : IC M2 := IC.fr ic f2 (fun c z => by unfold free isT; first | omega | (dsimp only at z; omega))
  have fd2 := frC (Fr.tr Fr.rf f2 fi_78)
  have wr2 : TR M2 := TR.fr wr (f2 32 (by decide)) (f2 106 (by decide)) (by omega) (congrFun (f2 0 (by decide)) 12) (by omega)
  show J X.1 RL cL_law 4 ret (ELW X M2 b L xs) C N Zl 1343 [(3, vi i), (2, vr X 97), (1, vr X 0), (0, .ref b)] [vi r2]
  refine j_pop (pc' := 1344) dL_law_1343 rfl rfl ?_
  refine j_goto (tgt := 1429) dL_law_1344 rfl ?_
  have F := f2
  have k0_10 : M2 0 10 = M 0 10 := congrFun (f2 0 (by first | decide | omega | (dsimp only; omega))) 10
  have k0_11 : M2 0 11 = M 0 11 := congrFun (f2 0 (by first | decide | omega | (dsimp only; omega))) 11
  have k0_12 : M2 0 12 = M 0 12 := congrFun (f2 0 (by first | decide | omega | (dsimp only; omega))) 12
  have k0_13 : M2 0 13 = M 0 13 := congrFun (f2 0 (by first | decide | omega | (dsimp only; omega))) 13
  obtain ⟨g1, g2, g3, g4, rf, ⟨g6a, g6b⟩, g7_⟩ := gr
  have k99_0 : M2 99 0 = M 99 0 := congrFun (f2 99 (by first | decide | omega | (dsimp only; omega))) 0
  have hrr : r1 = r2 := GR.drawn g7 p1 p2
  have gr2 : GR M2 := GR.k ⟨g1, g2, g3, g4, rf, ⟨g6a, g6b⟩, g7_⟩ F (fun c z => by unfold inT; first | omega | (dsimp only at z; omega)) (G1.fr g1 F (fun c z => by unfold inT; first | omega | (dsimp only at z; omega)) k99_0 (fun k _ _ => congrFun (f2 99 (by first | decide | omega | (dsimp only; omega))) k) (fun j _ => congrFun (f2 101 (by first | decide | omega | (dsimp only; omega))) j)) (G2.fr g2 (f2 7 (by first | decide | omega | (dsimp only; omega))) (by omega) (by omega) (fun k _ _ => congrFun (f2 99 (by first | decide | omega | (dsimp only; omega))) k)) (RFR.fr rf (by omega) (by omega) (f2 96 (by first | decide | omega | (dsimp only; omega))) (f2 98 (by first | decide | omega | (dsimp only; omega)))) ⟨by omega, by omega⟩ (by omega)
  exact hk M2 hR2 ic2 im2 ⟨by unfold CR at cr ⊢; omega, wr2, gr2⟩
set_option maxHeartbeats 4000000 in
set_option maxRecDepth 100000 in
theorem law_c33 (X : Cx) (b L : Nat) (xs : Nat → Int32) (C N : Nat) (hC : C + 0 ≤ 600000) (hN : N + 0 ≤ 7302249) (i : Int) (M : Mm) (hR : Rg M) (ic : IC M) (im : IM M) (crx : CX M) (h0 : 0 ≤ i) (h1 : i + 7 ≤ L) (hL : L ≤ 3584) (hk : ∀ M' : Mm, Rg M' → IC M' → IM M' → CX M' → J X.1 RL cL_law 4 ret (ELW X M' b L xs) C N Zl 1429 [(3, vi i), (2, vr X 97), (1, vr X 0), (0, .ref b)] []) : J X.1 RL cL_law 4 ret (ELW X M b L xs) C N Zl 1347 [(3, vi i), (2, vr X 97), (1, vr X 0), (0, .ref b)] [] := by
  have cr := crx.1
  have wr := crx.2.1
  have gr := crx.2.2
  have bb := ICb ic
  refine j_aload (pc' := 1348) 2 dL_law_1347 rfl rfl ?_
  refine j_aload (pc' := 1349) 3 dL_law_1348 rfl rfl ?_
  refine j_iload_n (pc' := 1350) 0 dL_law_1349 rfl rfl ?_
  refine j_iconst (pc' := 1351) dL_law_1350 rfl ?_
  refine j_iadd (pc' := 1352) dL_law_1351 rfl ?_
  refine w_sld (pc' := 1353) dL_law_1352 rfl (by omega) (by omega) ?_
  obtain ⟨ta, tb, P, Lq, F, Z, tv, pub⟩ := gr.1
  refine w_call hC hN hR (pc' := 1356) (As := [vi (sx xs (i + 1))]) (o := 0) (S := []) dL_law_1353 rfl m_L_155 w_X9_image (c_X9_image_x X M ic (sx xs (i + 1)) (sx_in xs (i + 1)) ta tb (M 99 0) P Lq F Z (M 101) (fun j => M 99 (4 + j)) tv pub) rfl ⟨_, _, _, rfl, rfl, rfl⟩ (Nat.le_of_ble_eq_true rfl) (Nat.le_of_ble_eq_true rfl) rfl (Nat.le_of_ble_eq_true rfl) (fun v M1 hq hR1 => ?_)
  obtain ⟨r1, rfl, ic1, f1, e1_0, e1_1, e1_2, e1_3, e1_4, e1_5, e1_6, e1_7, p1⟩ := hq
  have im1 : IM M1 := IM.fr im f1 (fun c z => by first | omega | (dsimp only at z; omega))
  have fd1 := frD (Fr.tr Fr.rf f1 fi_98)
  have x1 := p1.2
  replace p1 := p1.1
  have wr1 : TR M1 := TR.fr wr (f1 32 (by decide)) (f1 106 (by decide)) (by omega) (by omega) (congrFun (f1 97 (by decide)) 17)
  show J X.1 RL cL_law 4 ret (ELW X M1 b L xs) C N Zl 1356 [(3, vi i), (2, vr X 97), (1, vr X 0), (0, .ref b)] [vi r1]
  refine j_pop (pc' := 1357) dL_law_1356 rfl rfl ?_
  refine j_aload (pc' := 1358) 1 dL_law_1357 rfl rfl ?_
  refine j_aload (pc' := 1359) 3 dL_law_1358 rfl rfl ?_
  refine j_iload_n (pc' := 1360) 0 dL_law_1359 rfl rfl ?_
  refine j_iconst (pc' := 1361) dL_law_1360 rfl ?_
  refine j_iadd (pc' := 1362) dL_law_1361 rfl ?_
  refine w_sld (pc' := 1363) dL_law_1362 rfl (by omega) (by omega) ?_
  refine w_call hC hN hR1 (pc' := 1366) (As := [vi (sx xs (i + 1))]) (o := 97) (S := []) dL_law_1363 rfl m_L_158 w_X10_image (c_X10_image_x X M1 im1 (sx xs (i + 1)) (sx_in xs (i + 1))) rfl ⟨_, _, _, rfl, rfl, rfl⟩ (Nat.le_of_ble_eq_true rfl) (Nat.le_of_ble_eq_true rfl) rfl (Nat.le_of_ble_eq_true rfl) (fun v M2 hq hR2 => ?_)
  obtain ⟨r2, rfl, im2, f2, e2_0, e2_1, e2_2, e2_3, e2_4, e2_5, e2_6, e2_7, e2_8, p2⟩ := hq
  have ic2 : IC M2 := IC.fr ic1 f2 (fun c z => by unfold free isT; first | omega | (dsimp only at z; omega))
  have fd2 := frC (Fr.tr Fr.rf f2 fi_99)
  have x2 := p2.2
  replace p2 := p2.1
  have wr2 : TR M2 := TR.fr wr1 (f2 32 (by decide)) (f2 106 (by decide)) (by omega) (congrFun (f2 0 (by decide)) 12) (by omega)
  show J X.1 RL cL_law 4 ret (ELW X M2 b L xs) C N Zl 1366 [(3, vi i), (2, vr X 97), (1, vr X 0), (0, .ref b)] [vi r2]
  refine j_pop (pc' := 1367) dL_law_1366 rfl rfl ?_
  refine j_goto (tgt := 1429) dL_law_1367 rfl ?_
  have F := Fr.tr (P := fun c => (fun c => (10 ≤ c ∧ c ≤ 27) ∨ c = 29 ∨ c = 0 ∨ c = 96) c ∨ (fun c => c = 97 ∨ c = 98 ∨ c = 100 ∨ c = 102 ∨ c = 103) c) (Fr.tr Fr.rf f1 (fun c z => Or.inl z)) f2 (fun c z => Or.inr z)
  have k0_10 : M2 0 10 = M1 0 10 := congrFun (f2 0 (by first | decide | omega | (dsimp only; omega))) 10
  have k0_11 : M2 0 11 = M1 0 11 := congrFun (f2 0 (by first | decide | omega | (dsimp only; omega))) 11
  have k0_12 : M2 0 12 = M1 0 12 := congrFun (f2 0 (by first | decide | omega | (dsimp only; omega))) 12
  have k0_13 : M2 0 13 = M1 0 13 := congrFun (f2 0 (by first | decide | omega | (dsimp only; omega))) 13
  have k97_1 : M1 97 1 = M 97 1 := congrFun (f1 97 (by first | decide | omega | (dsimp only; omega))) 1
  have k97_10 : M1 97 10 = M 97 10 := congrFun (f1 97 (by first | decide | omega | (dsimp only; omega))) 10
  have k97_17 : M1 97 17 = M 97 17 := congrFun (f1 97 (by first | decide | omega | (dsimp only; omega))) 17
  have k97_33 : M1 97 33 = M 97 33 := congrFun (f1 97 (by first | decide | omega | (dsimp only; omega))) 33
  have k97_44 : M1 97 44 = M 97 44 := congrFun (f1 97 (by first | decide | omega | (dsimp only; omega))) 44
  obtain ⟨g1, g2, g3, g4, rf, ⟨g6a, g6b⟩, g7_⟩ := gr
  have k99_0 : M2 99 0 = M 99 0 := congrFun ((f2 99 (by first | decide | omega | (dsimp only; omega))).trans (f1 99 (by first | decide | omega | (dsimp only; omega)))) 0
  have hrr : r1 = r2 := (by unfold CR at cr; omega)
  have ha_ : -6 ≤ r2 := by unfold CR at cr; omega
  obtain ⟨gg3, gg4⟩ := GR.image ⟨g1, g2, g3, g4, rf, ⟨g6a, g6b⟩, g7_⟩ (by omega) (by omega) (by omega) (fun c hc => f1 c (by first | omega | (dsimp only; omega))) (fun c hc => f2 c (by first | omega | (dsimp only; omega))) x1.1 x2.1 (fun q => by omega) (fun q => by omega) (fun q => by omega) (fun q => by omega)
  have gr2 : GR M2 := ⟨(G1.fr g1 F (fun c z => by unfold inT; first | omega | (dsimp only at z; omega)) k99_0 (fun k _ _ => congrFun ((f2 99 (by first | decide | omega | (dsimp only; omega))).trans (f1 99 (by first | decide | omega | (dsimp only; omega)))) k) (fun j _ => congrFun ((f2 101 (by first | decide | omega | (dsimp only; omega))).trans (f1 101 (by first | decide | omega | (dsimp only; omega)))) j)), (G2.fr g2 ((f2 7 (by first | decide | omega | (dsimp only; omega))).trans (f1 7 (by first | decide | omega | (dsimp only; omega)))) (by omega) (by omega) (fun k _ _ => congrFun ((f2 99 (by first | decide | omega | (dsimp only; omega))).trans (f1 99 (by first | decide | omega | (dsimp only; omega)))) k)), gg3, gg4, (RFR.s2 rf ha_ hrr k0_10 x1.2.1 x2.2.1 (f2 96 (by first | decide | omega | (dsimp only; omega))) x1.2.2 (f1 98 (by first | decide | omega | (dsimp only; omega))) x2.2.2), ⟨by omega, by omega⟩, g7_.fr F (fun c z => by unfold inT; first | omega | (dsimp only at z; omega)) (by omega) ((f2 116 (by first | decide | omega | (dsimp only; omega))).trans (f1 116 (by first | decide | omega | (dsimp only; omega))))⟩
  exact hk M2 hR2 ic2 im2 ⟨by unfold CR at cr ⊢; omega, wr2, gr2⟩
set_option maxHeartbeats 4000000 in
set_option maxRecDepth 100000 in
theorem law_c34 (X : Cx) (b L : Nat) (xs : Nat → Int32) (C N : Nat) (hC : C + 0 ≤ 600000) (hN : N + 0 ≤ 7302249) (i : Int) (M : Mm) (hR : Rg M) (ic : IC M) (im : IM M) (crx : CX M) (h0 : 0 ≤ i) (h1 : i + 7 ≤ L) (hL : L ≤ 3584) (hk : ∀ M' : Mm, Rg M' → IC M' → IM M' → CX M' → J X.1 RL cL_law 4 ret (ELW X M' b L xs) C N Zl 1429 [(3, vi i), (2, vr X 97), (1, vr X 0), (0, .ref b)] []) : J X.1 RL cL_law 4 ret (ELW X M b L xs) C N Zl 1370 [(3, vi i), (2, vr X 97), (1, vr X 0), (0, .ref b)] [] := by
  have cr := crx.1
  have wr := crx.2.1
  have gr := crx.2.2
  have bb := ICb ic
  refine j_aload (pc' := 1371) 2 dL_law_1370 rfl rfl ?_
  refine j_aload (pc' := 1372) 3 dL_law_1371 rfl rfl ?_
  refine j_iload_n (pc' := 1373) 0 dL_law_1372 rfl rfl ?_
  refine j_iconst (pc' := 1374) dL_law_1373 rfl ?_
  refine j_iadd (pc' := 1375) dL_law_1374 rfl ?_
  refine w_sld (pc' := 1376) dL_law_1375 rfl (by omega) (by omega) ?_
  refine w_call hC hN hR (pc' := 1379) (As := [vi (sx xs (i + 1))]) (o := 0) (S := []) dL_law_1376 rfl m_L_159 w_X9_back (c_X9_back_x X M ic (sx xs (i + 1)) (sx_in xs (i + 1)) (M 100 (49 * 0)) (fun j => M 102 (25 * 0 + j)) (fun j => M 100 (49 * 0 + (4 + j))) (fun q => (gr.2.2.1 q).1) (M 100 (49 * 1)) (fun j => M 102 (25 * 1 + j)) (fun j => M 100 (49 * 1 + (4 + j))) (fun q => (gr.2.2.2.1 q).1)) rfl ⟨_, _, _, rfl, rfl, rfl⟩ (Nat.le_of_ble_eq_true rfl) (Nat.le_of_ble_eq_true rfl) rfl (Nat.le_of_ble_eq_true rfl) (fun v M1 hq hR1 => ?_)
  obtain ⟨r1, rfl, ic1, f1, e1_0, e1_1, e1_2, e1_3, e1_4, e1_5, e1_6, e1_7, e1_8, e1_9, e1_10, e1_11, e1_12, e1_13, p1⟩ := hq
  have im1 : IM M1 := IM.fr im f1 (fun c z => by first | omega | (dsimp only at z; omega))
  have fd1 := frD (Fr.tr Fr.rf f1 fi_100)
  have x1 := p1.2
  replace p1 := p1.1
  have wr1 : TR M1 := TR.fr wr (f1 32 (by decide)) (f1 106 (by decide)) (by omega) (by omega) (congrFun (f1 97 (by decide)) 17)
  show J X.1 RL cL_law 4 ret (ELW X M1 b L xs) C N Zl 1379 [(3, vi i), (2, vr X 97), (1, vr X 0), (0, .ref b)] [vi r1]
  refine j_pop (pc' := 1380) dL_law_1379 rfl rfl ?_
  refine j_aload (pc' := 1381) 1 dL_law_1380 rfl rfl ?_
  refine j_aload (pc' := 1382) 3 dL_law_1381 rfl rfl ?_
  refine j_iload_n (pc' := 1383) 0 dL_law_1382 rfl rfl ?_
  refine j_iconst (pc' := 1384) dL_law_1383 rfl ?_
  refine j_iadd (pc' := 1385) dL_law_1384 rfl ?_
  refine w_sld (pc' := 1386) dL_law_1385 rfl (by omega) (by omega) ?_
  refine w_call hC hN hR1 (pc' := 1389) (As := [vi (sx xs (i + 1))]) (o := 97) (S := []) dL_law_1386 rfl m_L_162 w_X10_back (c_X10_back_x X M1 im1 (sx xs (i + 1)) (sx_in xs (i + 1))) rfl ⟨_, _, _, rfl, rfl, rfl⟩ (Nat.le_of_ble_eq_true rfl) (Nat.le_of_ble_eq_true rfl) rfl (Nat.le_of_ble_eq_true rfl) (fun v M2 hq hR2 => ?_)
  obtain ⟨r2, rfl, im2, f2, e2_0, e2_1, e2_2, e2_3, e2_4, e2_5, e2_6, e2_7, e2_8, e2_9, e2_10, e2_11, e2_12, e2_13, e2_14, p2⟩ := hq
  have ic2 : IC M2 := IC.fr ic1 f2 (fun c z => by unfold free isT; first | omega | (dsimp only at z; omega))
  have fd2 := frC (Fr.tr Fr.rf f2 fi_101)
  have x2 := p2.2
  replace p2 := p2.1
  have wr2 : TR M2 := TR.fr wr1 (f2 32 (by decide)) (f2 106 (by decide)) (by omega) (congrFun (f2 0 (by decide)) 12) (by omega)
  show J X.1 RL cL_law 4 ret (ELW X M2 b L xs) C N Zl 1389 [(3, vi i), (2, vr X 97), (1, vr X 0), (0, .ref b)] [vi r2]
  refine j_pop (pc' := 1390) dL_law_1389 rfl rfl ?_
  refine j_goto (tgt := 1429) dL_law_1390 rfl ?_
  have ha_ : -6 ≤ r2 := by unfold CR at cr; clear p1; omega
  have dt := det_back p1 p2 (by unfold CR at cr; omega) (by unfold CR at cr; omega) (by unfold CR at cr; omega) (by unfold CR at cr; omega) (by unfold CR at cr; omega) (by unfold CR at cr; omega) (by unfold CR at cr; omega) (by unfold CR at cr; omega) (by unfold CR at cr; omega) (by unfold CR at cr; omega) (by unfold CR at cr; omega) (by unfold CR at cr; omega) (by unfold CR at cr; omega) (by unfold CR at cr; omega)
  have c0_ := p1.2.2.2.1
  have c1_ := p1.2.2.2.2
  clear p1 p2
  have F := Fr.tr (P := fun c => (fun c => 1 ≤ c ∧ c ≤ 9 ∨ c = 0 ∨ c = 96) c ∨ (fun c => c = 97 ∨ c = 98 ∨ c = 99 ∨ c = 101) c) (Fr.tr Fr.rf f1 (fun c z => Or.inl z)) f2 (fun c z => Or.inr z)
  have k0_10 : M2 0 10 = M1 0 10 := congrFun (f2 0 (by first | decide | omega | (dsimp only; omega))) 10
  have k0_11 : M2 0 11 = M1 0 11 := congrFun (f2 0 (by first | decide | omega | (dsimp only; omega))) 11
  have k0_12 : M2 0 12 = M1 0 12 := congrFun (f2 0 (by first | decide | omega | (dsimp only; omega))) 12
  have k0_13 : M2 0 13 = M1 0 13 := congrFun (f2 0 (by first | decide | omega | (dsimp only; omega))) 13
  have k97_1 : M1 97 1 = M 97 1 := congrFun (f1 97 (by first | decide | omega | (dsimp only; omega))) 1
  have k97_10 : M1 97 10 = M 97 10 := congrFun (f1 97 (by first | decide | omega | (dsimp only; omega))) 10
  have k97_17 : M1 97 17 = M 97 17 := congrFun (f1 97 (by first | decide | omega | (dsimp only; omega))) 17
  have k97_33 : M1 97 33 = M 97 33 := congrFun (f1 97 (by first | decide | omega | (dsimp only; omega))) 33
  have k97_44 : M1 97 44 = M 97 44 := congrFun (f1 97 (by first | decide | omega | (dsimp only; omega))) 44
  obtain ⟨g1, g2, g3, g4, rf, ⟨g6a, g6b⟩, g7_⟩ := gr
  have k12 : M2 1 2 = M1 1 2 := congrFun (f2 1 (by first | decide | omega | (dsimp only; omega))) 2
  have hrr : r1 = r2 := dt.1
  obtain ⟨gg1, gg2⟩ := GR.back ⟨g1, g2, g3, g4, rf, ⟨g6a, g6b⟩, g7_⟩ (by unfold CR at cr; omega) (by omega) (by omega) (by omega) (fun c hc => f1 c (by first | omega | (dsimp only; omega))) (fun c hc => f2 c (by first | omega | (dsimp only; omega))) x1.1 x2.1 (fun q1 q2 => k12.trans (c0_ q1 q2).2.2.1) (fun q1 q2 => k12.trans (c1_ q1 q2).2.2.1) (fun q => k12.trans (congrFun (x1.1.2.2 q 1 (by decide) (by decide)) 2))
  clear c0_ c1_
  have gr2 : GR M2 := GR.k ⟨g1, g2, g3, g4, rf, ⟨g6a, g6b⟩, g7_⟩ F (fun c z => by unfold inT; first | omega | (dsimp only at z; omega)) gg1 gg2 (RFR.s2 rf ha_ hrr k0_10 x1.2.1 x2.2.1 (f2 96 (by first | decide | omega | (dsimp only; omega))) x1.2.2 (f1 98 (by first | decide | omega | (dsimp only; omega))) x2.2.2) ⟨by omega, by omega⟩ (by omega)
  exact hk M2 hR2 ic2 im2 ⟨by unfold CR at cr ⊢; omega, wr2, gr2⟩
set_option maxHeartbeats 4000000 in
set_option maxRecDepth 100000 in
theorem law_c35 (X : Cx) (b L : Nat) (xs : Nat → Int32) (C N : Nat) (hC : C + 0 ≤ 600000) (hN : N + 0 ≤ 7302249) (i : Int) (M : Mm) (hR : Rg M) (ic : IC M) (im : IM M) (crx : CX M) (h0 : 0 ≤ i) (h1 : i + 7 ≤ L) (hL : L ≤ 3584) (hk : ∀ M' : Mm, Rg M' → IC M' → IM M' → CX M' → J X.1 RL cL_law 4 ret (ELW X M' b L xs) C N Zl 1429 [(3, vi i), (2, vr X 97), (1, vr X 0), (0, .ref b)] []) : J X.1 RL cL_law 4 ret (ELW X M b L xs) C N Zl 1393 [(3, vi i), (2, vr X 97), (1, vr X 0), (0, .ref b)] [] := by
  have cr := crx.1
  have wr := crx.2.1
  have gr := crx.2.2
  have bb := ICb ic
  refine j_aload (pc' := 1394) 2 dL_law_1393 rfl rfl ?_
  refine j_aload (pc' := 1395) 3 dL_law_1394 rfl rfl ?_
  refine j_iload_n (pc' := 1396) 0 dL_law_1395 rfl rfl ?_
  refine j_iconst (pc' := 1397) dL_law_1396 rfl ?_
  refine j_iadd (pc' := 1398) dL_law_1397 rfl ?_
  refine w_sld (pc' := 1399) dL_law_1398 rfl (by omega) (by omega) ?_
  refine w_call hC hN hR (pc' := 1402) (As := [vi (sx xs (i + 1))]) (o := 0) (S := []) dL_law_1399 rfl m_L_163 w_X9_count (c_X9_count_x X M ic (sx xs (i + 1)) (sx_in xs (i + 1))) rfl ⟨_, _, _, rfl, rfl, rfl⟩ (Nat.le_of_ble_eq_true rfl) (Nat.le_of_ble_eq_true rfl) rfl (Nat.le_of_ble_eq_true rfl) (fun v M1 hq hR1 => ?_)
  obtain ⟨r1, rfl, e1, p1⟩ := hq
  rw [e1]
  show J X.1 RL cL_law 4 ret (ELW X M b L xs) C N Zl 1402 [(3, vi i), (2, vr X 97), (1, vr X 0), (0, .ref b)] [vi r1]
  refine j_pop (pc' := 1403) dL_law_1402 rfl rfl ?_
  refine j_aload (pc' := 1404) 1 dL_law_1403 rfl rfl ?_
  refine j_aload (pc' := 1405) 3 dL_law_1404 rfl rfl ?_
  refine j_iload_n (pc' := 1406) 0 dL_law_1405 rfl rfl ?_
  refine j_iconst (pc' := 1407) dL_law_1406 rfl ?_
  refine j_iadd (pc' := 1408) dL_law_1407 rfl ?_
  refine w_sld (pc' := 1409) dL_law_1408 rfl (by omega) (by omega) ?_
  refine w_call hC hN hR (pc' := 1412) (As := [vi (sx xs (i + 1))]) (o := 97) (S := []) dL_law_1409 rfl m_L_166 w_X10_count (c_X10_count_x X M im (sx xs (i + 1)) (sx_in xs (i + 1))) rfl ⟨_, _, _, rfl, rfl, rfl⟩ (Nat.le_of_ble_eq_true rfl) (Nat.le_of_ble_eq_true rfl) rfl (Nat.le_of_ble_eq_true rfl) (fun v M2 hq hR2 => ?_)
  obtain ⟨r2, rfl, im2, f2, e2_0, e2_1, e2_2, e2_3, e2_4, e2_5, e2_6, e2_7, e2_8, e2_9, e2_10, e2_11, e2_12, e2_13, e2_14, e2_15, e2_16, e2_17, e2_18, e2_19, p2⟩ := hq
  have ic2 : IC M2 := IC.fr ic f2 (fun c z => by unfold free isT; first | omega | (dsimp only at z; omega))
  have fd2 := frC (Fr.tr Fr.rf f2 fi_78)
  have wr2 : TR M2 := TR.fr wr (f2 32 (by decide)) (f2 106 (by decide)) (by omega) (congrFun (f2 0 (by decide)) 12) (by omega)
  show J X.1 RL cL_law 4 ret (ELW X M2 b L xs) C N Zl 1412 [(3, vi i), (2, vr X 97), (1, vr X 0), (0, .ref b)] [vi r2]
  refine j_pop (pc' := 1413) dL_law_1412 rfl rfl ?_
  refine j_goto (tgt := 1429) dL_law_1413 rfl ?_
  have F := f2
  have k0_10 : M2 0 10 = M 0 10 := congrFun (f2 0 (by first | decide | omega | (dsimp only; omega))) 10
  have k0_11 : M2 0 11 = M 0 11 := congrFun (f2 0 (by first | decide | omega | (dsimp only; omega))) 11
  have k0_12 : M2 0 12 = M 0 12 := congrFun (f2 0 (by first | decide | omega | (dsimp only; omega))) 12
  have k0_13 : M2 0 13 = M 0 13 := congrFun (f2 0 (by first | decide | omega | (dsimp only; omega))) 13
  obtain ⟨g1, g2, g3, g4, rf, ⟨g6a, g6b⟩, g7_⟩ := gr
  have k99_0 : M2 99 0 = M 99 0 := congrFun (f2 99 (by first | decide | omega | (dsimp only; omega))) 0
  have hrr : r1 = r2 := GR.count rf g2 (by unfold CR at cr; omega) (by unfold CR at cr; omega) p1 p2
  have gr2 : GR M2 := GR.k ⟨g1, g2, g3, g4, rf, ⟨g6a, g6b⟩, g7_⟩ F (fun c z => by unfold inT; first | omega | (dsimp only at z; omega)) (G1.fr g1 F (fun c z => by unfold inT; first | omega | (dsimp only at z; omega)) k99_0 (fun k _ _ => congrFun (f2 99 (by first | decide | omega | (dsimp only; omega))) k) (fun j _ => congrFun (f2 101 (by first | decide | omega | (dsimp only; omega))) j)) (G2.fr g2 (f2 7 (by first | decide | omega | (dsimp only; omega))) (by omega) (by omega) (fun k _ _ => congrFun (f2 99 (by first | decide | omega | (dsimp only; omega))) k)) (RFR.fr rf (by omega) (by omega) (f2 96 (by first | decide | omega | (dsimp only; omega))) (f2 98 (by first | decide | omega | (dsimp only; omega)))) ⟨by omega, by omega⟩ (by omega)
  exact hk M2 hR2 ic2 im2 ⟨by unfold CR at cr ⊢; omega, wr2, gr2⟩
set_option maxHeartbeats 4000000 in
set_option maxRecDepth 100000 in
theorem law_c36 (X : Cx) (b L : Nat) (xs : Nat → Int32) (C N : Nat) (hC : C + 0 ≤ 600000) (hN : N + 0 ≤ 7302249) (i : Int) (M : Mm) (hR : Rg M) (ic : IC M) (im : IM M) (crx : CX M) (h0 : 0 ≤ i) (h1 : i + 7 ≤ L) (hL : L ≤ 3584) (hk : ∀ M' : Mm, Rg M' → IC M' → IM M' → CX M' → J X.1 RL cL_law 4 ret (ELW X M' b L xs) C N Zl 1429 [(3, vi i), (2, vr X 97), (1, vr X 0), (0, .ref b)] []) : J X.1 RL cL_law 4 ret (ELW X M b L xs) C N Zl 1416 [(3, vi i), (2, vr X 97), (1, vr X 0), (0, .ref b)] [] := by
  have cr := crx.1
  have wr := crx.2.1
  have gr := crx.2.2
  have bb := ICb ic
  refine j_aload (pc' := 1417) 2 dL_law_1416 rfl rfl ?_
  refine w_call hC hN hR (pc' := 1420) (As := []) (o := 0) (S := []) dL_law_1417 rfl m_L_167 w_X9_status (c_X9_status_x X M ic) rfl ⟨_, _, _, rfl, rfl, rfl⟩ (Nat.le_of_ble_eq_true rfl) (Nat.le_of_ble_eq_true rfl) rfl (Nat.le_of_ble_eq_true rfl) (fun v M1 hq hR1 => ?_)
  obtain ⟨r1, rfl, e1, p1⟩ := hq
  rw [e1]
  show J X.1 RL cL_law 4 ret (ELW X M b L xs) C N Zl 1420 [(3, vi i), (2, vr X 97), (1, vr X 0), (0, .ref b)] [vi r1]
  refine j_aload (pc' := 1421) 1 dL_law_1420 rfl rfl ?_
  refine w_call hC hN hR (pc' := 1424) (As := []) (o := 97) (S := [vi r1]) dL_law_1421 rfl m_L_170 w_X10_status (c_X10_status_x X M im) rfl ⟨_, _, _, rfl, rfl, rfl⟩ (Nat.le_of_ble_eq_true rfl) (Nat.le_of_ble_eq_true rfl) rfl (Nat.le_of_ble_eq_true rfl) (fun v M2 hq hR2 => ?_)
  obtain ⟨r2, rfl, im2, f2, e2_0, e2_1, e2_2, e2_3, e2_4, e2_5, e2_6, e2_7, e2_8, e2_9, e2_10, e2_11, e2_12, e2_13, e2_14, e2_15, e2_16, e2_17, e2_18, e2_19, p2⟩ := hq
  have ic2 : IC M2 := IC.fr ic f2 (fun c z => by unfold free isT; first | omega | (dsimp only at z; omega))
  have fd2 := frC (Fr.tr Fr.rf f2 fi_78)
  have wr2 : TR M2 := TR.fr wr (f2 32 (by decide)) (f2 106 (by decide)) (by omega) (congrFun (f2 0 (by decide)) 12) (by omega)
  show J X.1 RL cL_law 4 ret (ELW X M2 b L xs) C N Zl 1424 [(3, vi i), (2, vr X 97), (1, vr X 0), (0, .ref b)] [vi r2, vi r1]
  have F := f2
  have k0_10 : M2 0 10 = M 0 10 := congrFun (f2 0 (by first | decide | omega | (dsimp only; omega))) 10
  have k0_11 : M2 0 11 = M 0 11 := congrFun (f2 0 (by first | decide | omega | (dsimp only; omega))) 11
  have k0_12 : M2 0 12 = M 0 12 := congrFun (f2 0 (by first | decide | omega | (dsimp only; omega))) 12
  have k0_13 : M2 0 13 = M 0 13 := congrFun (f2 0 (by first | decide | omega | (dsimp only; omega))) 13
  obtain ⟨g1, g2, g3, g4, rf, ⟨g6a, g6b⟩, g7_⟩ := gr
  have k99_0 : M2 99 0 = M 99 0 := congrFun (f2 99 (by first | decide | omega | (dsimp only; omega))) 0
  have hrr : r1 = r2 := p1.trans (rf.1.trans p2.symm)
  have gr2 : GR M2 := GR.k ⟨g1, g2, g3, g4, rf, ⟨g6a, g6b⟩, g7_⟩ F (fun c z => by unfold inT; first | omega | (dsimp only at z; omega)) (G1.fr g1 F (fun c z => by unfold inT; first | omega | (dsimp only at z; omega)) k99_0 (fun k _ _ => congrFun (f2 99 (by first | decide | omega | (dsimp only; omega))) k) (fun j _ => congrFun (f2 101 (by first | decide | omega | (dsimp only; omega))) j)) (G2.fr g2 (f2 7 (by first | decide | omega | (dsimp only; omega))) (by omega) (by omega) (fun k _ _ => congrFun (f2 99 (by first | decide | omega | (dsimp only; omega))) k)) (RFR.fr rf (by omega) (by omega) (f2 96 (by first | decide | omega | (dsimp only; omega))) (f2 98 (by first | decide | omega | (dsimp only; omega)))) ⟨by omega, by omega⟩ (by omega)
  refine j_ic_sm (tgt := 1429) hrr dL_law_1424 rfl ?_
  exact hk M2 hR2 ic2 im2 ⟨by unfold CR at cr ⊢; omega, wr2, gr2⟩
