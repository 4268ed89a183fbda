set_option maxHeartbeats 4000000 in
set_option maxRecDepth 100000 in
theorem l_X9_commonDivisor_x_9 (X : Cx) (M : Mm) (a : Int) (ha : inL a) (b : Int) (hb : inL b) (pa : 0 ≤ a) (pb : 0 ≤ b) : ∀ (kk : Nat) (u : Int) (v : Int) (i : Int) (he : EU i.toNat u v) (hg : Int.gcd u v = Int.gcd a b) (h0 : 0 ≤ i) (h1 : i ≤ 200), (200 - i).toNat = kk → G X 0 RX9 cX9_commonDivisor 11 (some .long) (Ql (fun r M1 => M1 = M ∧ (r = ((Int.gcd a b : Nat) : Int)))) 9 [(4, vl u), (6, vl v), (8, vi i)] [] M := by
  intro kk
  induction kk using Nat.strongRecOn with
  | ind kk ih =>
    intro u v i he hg h0 h1 hmes
    have hu0 := he.1
    have hv0 := he.2.1
    have hu1 := he.2.2.1
    have hv1 := he.2.2.2.1
    refine g_iload (pc' := 11) 2 dX9_commonDivisor_9 rfl rfl ?_
    refine g_sipush (pc' := 14) (v := 200) dX9_commonDivisor_11 rfl (by decide) ?_
    refine g_ic_ge (pc' := 17) (tgt := 45) ⟨by omega, by omega⟩ (by decide) dX9_commonDivisor_14 rfl rfl (fun c1 => ?_) (fun c1 => ?_)
    · refine g_lload (pc' := 47) 0 dX9_commonDivisor_45 rfl rfl ?_
      refine g_lreturn dX9_commonDivisor_47 ?_
      exact ⟨rfl, gcdE hg hu0 (by first | omega | exact EU.last he (by omega))⟩
    · refine g_lload (pc' := 19) 1 dX9_commonDivisor_17 rfl rfl ?_
      refine g_lconst (pc' := 20) (v := 0) dX9_commonDivisor_19 rfl (by decide) ?_
      refine g_lc_eq (pc' := 24) (tgt := 45) ⟨by omega, by omega⟩ (by decide) dX9_commonDivisor_20 dX9_commonDivisor_21 rfl rfl (fun c2 => ?_) (fun c2 => ?_)
      · refine g_lload (pc' := 47) 0 dX9_commonDivisor_45 rfl rfl ?_
        refine g_lreturn dX9_commonDivisor_47 ?_
        exact ⟨rfl, gcdE hg hu0 (by first | omega | exact EU.last he (by omega))⟩
      · refine g_lload (pc' := 26) 0 dX9_commonDivisor_24 rfl rfl ?_
        refine g_lload (pc' := 28) 1 dX9_commonDivisor_26 rfl rfl ?_
        refine g_lrem (pc' := 29) ⟨by omega, by omega⟩ ⟨by omega, by omega⟩ (by omega) dX9_commonDivisor_28 rfl ?_
        have he2 := EU.step he (show v ≠ 0 by omega)
        have hg2 := (gcdS hu0 (show 0 < v by omega)).trans hg
        obtain ⟨rr, hrr⟩ : ∃ z : Int, z = u.tmod v := ⟨_, rfl⟩
        rw [← hrr] at he2 hg2 ⊢
        have he3 : EU (i + 1).toNat v rr := by rw [show (i + 1).toNat = i.toNat + 1 by omega]; exact he2
        have hr0 := he3.2.1
        have hr1 := he3.2.2.2.1
        refine g_lstore (pc' := 31) (L' := [(9, vl rr), (4, vl u), (6, vl v), (8, vi i)]) dX9_commonDivisor_29 rfl (by decide) rfl ?_
        refine g_lload (pc' := 33) 2 dX9_commonDivisor_31 rfl rfl ?_
        refine g_lstore (pc' := 35) (L' := [(4, vl v), (9, vl rr), (6, vl v), (8, vi i)]) dX9_commonDivisor_33 rfl (by decide) rfl ?_
        refine g_lload (pc' := 37) 1 dX9_commonDivisor_35 rfl rfl ?_
        refine g_lstore (pc' := 39) (L' := [(6, vl rr), (4, vl v), (9, vl rr), (8, vi i)]) dX9_commonDivisor_37 rfl (by decide) rfl ?_
        refine g_iinc (pc' := 42) (L' := [(8, vi (i + 1)), (6, vl rr), (4, vl v), (9, vl rr)]) 3 dX9_commonDivisor_39 rfl rfl (by decide) rfl ?_
        refine g_goto (tgt := 9) dX9_commonDivisor_42 rfl ?_
        refine g_sub [2, 1, 0] rfl ?_
        exact ih _ (by omega) v rr (i + 1) he3 hg2 (by omega) (by omega) rfl
set_option maxHeartbeats 4000000 in
set_option maxRecDepth 100000 in
theorem c_X9_commonDivisor_x (X : Cx) (M : Mm) (a : Int) (ha : inL a) (b : Int) (hb : inL b) (pa : 0 ≤ a) (pb : 0 ≤ b) : Con X 0 yX9_commonDivisor cX9_commonDivisor 11 (some .long) [vl a, vl b] M (Ql (fun r M1 => M1 = M ∧ (r = ((Int.gcd a b : Nat) : Int)))) := by
  refine Con.ofG rfl (Nat.le_of_ble_eq_true rfl) ?_
  show G X 0 RX9 cX9_commonDivisor 11 (some .long) (Ql (fun r M1 => M1 = M ∧ (r = ((Int.gcd a b : Nat) : Int)))) 0 [(0, vl a), (2, vl b)] [] M
  refine g_lload_n (pc' := 1) 0 dX9_commonDivisor_0 rfl rfl ?_
  refine g_lstore (pc' := 3) (L' := [(4, vl a), (0, vl a), (2, vl b)]) dX9_commonDivisor_1 rfl (by decide) rfl ?_
  refine g_lload_n (pc' := 4) 2 dX9_commonDivisor_3 rfl rfl ?_
  refine g_lstore (pc' := 6) (L' := [(6, vl b), (4, vl a), (0, vl a), (2, vl b)]) dX9_commonDivisor_4 rfl (by decide) rfl ?_
  refine g_iconst (pc' := 7) dX9_commonDivisor_6 rfl ?_
  refine g_istore (pc' := 9) (L' := [(8, vi 0), (6, vl b), (4, vl a), (0, vl a), (2, vl b)]) dX9_commonDivisor_7 rfl (by decide) rfl ?_
  refine g_sub [2, 1, 0] rfl ?_
  exact l_X9_commonDivisor_x_9 X M a ha b hb pa pb _ a b 0 (EU.init ha hb pa pb) rfl (by omega) (by omega) rfl
set_option maxHeartbeats 4000000 in
set_option maxRecDepth 100000 in
theorem l_X10_common_x_6 (X : Cx) (M : Mm) (a : Int) (ha : inL a) (b : Int) (hb : inL b) (pa : 0 ≤ a) (pb : 0 ≤ b) : ∀ (kk : Nat) (x : Int) (y : Int) (hx : inL x) (hy : inL y) (x0 : 0 ≤ x) (y0 : 0 ≤ y) (hg : Int.gcd x y = Int.gcd a b), y.toNat = kk → G X 0 RX10 cX10_common 10 (some .long) (Ql (fun r M1 => M1 = M ∧ (r = ((Int.gcd a b : Nat) : Int)))) 6 [(4, vl x), (6, vl y)] [] M := by
  intro kk
  induction kk using Nat.strongRecOn with
  | ind kk ih =>
    intro x y hx hy x0 y0 hg hmes
    refine g_lload (pc' := 8) 1 dX10_common_6 rfl rfl ?_
    refine g_lconst (pc' := 9) (v := 0) dX10_common_8 rfl (by decide) ?_
    refine g_lc_eq (pc' := 13) (tgt := 31) ⟨by omega, by omega⟩ (by decide) dX10_common_9 dX10_common_10 rfl rfl (fun c1 => ?_) (fun c1 => ?_)
    · refine g_lload (pc' := 33) 0 dX10_common_31 rfl rfl ?_
      refine g_lreturn dX10_common_33 ?_
      exact ⟨rfl, gcdE hg x0 (by omega)⟩
    · refine g_lload (pc' := 15) 0 dX10_common_13 rfl rfl ?_
      refine g_lload (pc' := 17) 1 dX10_common_15 rfl rfl ?_
      refine g_lrem (pc' := 18) ⟨by omega, by omega⟩ ⟨by omega, by omega⟩ (by omega) dX10_common_17 rfl ?_
      have htm := tmr (x := x) (k := y) x0 (by omega)
      have hg2 := (gcdS x0 (show 0 < y by omega)).trans hg
      obtain ⟨rr, hrr⟩ : ∃ z : Int, z = x.tmod y := ⟨_, rfl⟩
      rw [← hrr] at htm hg2 ⊢
      refine g_lstore (pc' := 20) (L' := [(8, vl rr), (4, vl x), (6, vl y)]) dX10_common_18 rfl (by decide) rfl ?_
      refine g_lload (pc' := 22) 2 dX10_common_20 rfl rfl ?_
      refine g_lstore (pc' := 24) (L' := [(4, vl y), (8, vl rr), (6, vl y)]) dX10_common_22 rfl (by decide) rfl ?_
      refine g_lload (pc' := 26) 1 dX10_common_24 rfl rfl ?_
      refine g_lstore (pc' := 28) (L' := [(6, vl rr), (4, vl y), (8, vl rr)]) dX10_common_26 rfl (by decide) rfl ?_
      refine g_goto (tgt := 6) dX10_common_28 rfl ?_
      refine g_sub [1, 0] rfl ?_
      exact ih _ (by omega) y rr (by first | assumption | exact ⟨by omega, by omega⟩) (by first | assumption | exact ⟨by omega, by omega⟩) (by omega) (by omega) hg2 rfl
set_option maxHeartbeats 4000000 in
set_option maxRecDepth 100000 in
theorem c_X10_common_x (X : Cx) (M : Mm) (a : Int) (ha : inL a) (b : Int) (hb : inL b) (pa : 0 ≤ a) (pb : 0 ≤ b) : Con X 0 yX10_common cX10_common 10 (some .long) [vl a, vl b] M (Ql (fun r M1 => M1 = M ∧ (r = ((Int.gcd a b : Nat) : Int)))) := by
  refine Con.ofG rfl (Nat.le_of_ble_eq_true rfl) ?_
  show G X 0 RX10 cX10_common 10 (some .long) (Ql (fun r M1 => M1 = M ∧ (r = ((Int.gcd a b : Nat) : Int)))) 0 [(0, vl a), (2, vl b)] [] M
  refine g_lload_n (pc' := 1) 0 dX10_common_0 rfl rfl ?_
  refine g_lstore (pc' := 3) (L' := [(4, vl a), (0, vl a), (2, vl b)]) dX10_common_1 rfl (by decide) rfl ?_
  refine g_lload_n (pc' := 4) 2 dX10_common_3 rfl rfl ?_
  refine g_lstore (pc' := 6) (L' := [(6, vl b), (4, vl a), (0, vl a), (2, vl b)]) dX10_common_4 rfl (by decide) rfl ?_
  refine g_sub [1, 0] rfl ?_
  exact l_X10_common_x_6 X M a ha b hb pa pb _ a b (by first | assumption | exact ⟨by omega, by omega⟩) (by first | assumption | exact ⟨by omega, by omega⟩) (by omega) (by omega) rfl rfl
set_option maxHeartbeats 4000000 in
set_option maxRecDepth 100000 in
theorem c_X7_sizeOf_x (X : Cx) (M : Mm) (t : Nat) (ht : isT t) (ho : okT M t) (g : Int) (hg : inI g) (a b : Nat) (n : Int) (P : Nat → Int) (L : Int) (F Z : Nat → Int) (tv : TV M t a b n P L F Z) (ct : CT n P L F Z) : Con X 1 yX7_sizeOf cX7_sizeOf 2 (some .int) [vr X t, vi g] M (Qi (fun r M1 => M1 = M ∧ ((0 ≤ r ∧ r ≤ 60) ∧ szQ n Z g r))) := by
  refine Con.ofG rfl (Nat.le_of_ble_eq_true rfl) ?_
  show G X 1 RX7 cX7_sizeOf 2 (some .int) (Qi (fun r M1 => M1 = M ∧ ((0 ≤ r ∧ r ≤ 60) ∧ szQ n Z g r))) 0 [(0, vr X t), (1, vi g)] [] M
  have tv0 := tv
  have tv1 := tv
  obtain ⟨⟨t2, t3⟩, hab, t5, tA, t4, tF, tZ⟩ := tv1
  have ctn := ct.1
  have ctL := ct.2.1
  have haa : a = t + 3 ∨ a = t + 4 := by omega
  have hbb : b = t + 3 ∨ b = t + 4 := by omega
  refine g_aload_n (pc' := 1) 0 dX7_sizeOf_0 rfl rfl ?_
  refine g_iload_n (pc' := 2) 1 dX7_sizeOf_1 rfl rfl ?_
  refine g_callVip (pc' := 5) (As := [vi g]) (b := t) (S := []) dX7_sizeOf_2 rfl m_X7_33 w_X7_has (c_X7_has X M t ht (TV.ok tv0 ctn) g hg) rfl ⟨_, _, _, ht.o, rfl, rfl⟩ (by decide) (by decide) rfl (Nat.le_of_ble_eq_true rfl) (fun z2 q1 => ?_)
  refine g_if_eq (pc' := 8) (tgt := 17) ⟨by omega, by omega⟩ dX7_sizeOf_5 rfl rfl (fun c3 => ?_) (fun c3 => ?_)
  · replace q1 := q1.resolve_left (fun h => absurd (c3.symm.trans h.1) (by decide))
    refine g_iconst (pc' := 18) dX7_sizeOf_17 rfl ?_
    refine g_ireturn dX7_sizeOf_18 ?_
    exact ⟨rfl, by omega, by unfold szQ; omega⟩
  · replace q1 := q1.resolve_right (fun h => c3 h.1)
    refine g_aload_n (pc' := 9) 0 dX7_sizeOf_8 rfl rfl ?_
    refine g_getR (pc' := 12) dX7_sizeOf_9 rfl f_X7_9 ht.o rfl ?_
    refine g_iload_n (pc' := 13) 1 dX7_sizeOf_12 rfl rfl ?_
    refine g_iald (pc' := 14) dX7_sizeOf_13 rfl ht.s (by omega) (by omega) (fun v4 ev4 rv4 => ?_)
    have gv4 : v4 = Z g.toNat := ev4.trans (congrFun tZ _)
    have bv4 := ct.2.2.2 g.toNat (by omega)
    have cv4 := bv4.2.1
    clear bv4
    refine g_goto (tgt := 18) dX7_sizeOf_14 rfl ?_
    refine g_ireturn dX7_sizeOf_18 ?_
    exact ⟨rfl, by omega, by unfold szQ; left; exact ⟨by omega, by omega⟩⟩
set_option maxHeartbeats 4000000 in
set_option maxRecDepth 100000 in
theorem c_X7_fullOf_x (X : Cx) (M : Mm) (t : Nat) (ht : isT t) (ho : okT M t) (g : Int) (hg : inI g) (a b : Nat) (n : Int) (P : Nat → Int) (L : Int) (F Z : Nat → Int) (tv : TV M t a b n P L F Z) (ct : CT n P L F Z) : Con X 1 yX7_fullOf cX7_fullOf 2 (some .int) [vr X t, vi g] M (Qi (fun r M1 => M1 = M ∧ ((0 ≤ r ∧ r ≤ 60) ∧ szQ n F g r))) := by
  refine Con.ofG rfl (Nat.le_of_ble_eq_true rfl) ?_
  show G X 1 RX7 cX7_fullOf 2 (some .int) (Qi (fun r M1 => M1 = M ∧ ((0 ≤ r ∧ r ≤ 60) ∧ szQ n F g r))) 0 [(0, vr X t), (1, vi g)] [] M
  have tv0 := tv
  have tv1 := tv
  obtain ⟨⟨t2, t3⟩, hab, t5, tA, t4, tF, tZ⟩ := tv1
  have ctn := ct.1
  have ctL := ct.2.1
  have haa : a = t + 3 ∨ a = t + 4 := by omega
  have hbb : b = t + 3 ∨ b = t + 4 := by omega
  refine g_aload_n (pc' := 1) 0 dX7_fullOf_0 rfl rfl ?_
  refine g_iload_n (pc' := 2) 1 dX7_fullOf_1 rfl rfl ?_
  refine g_callVip (pc' := 5) (As := [vi g]) (b := t) (S := []) dX7_fullOf_2 rfl m_X7_33 w_X7_has (c_X7_has X M t ht (TV.ok tv0 ctn) g hg) rfl ⟨_, _, _, ht.o, rfl, rfl⟩ (by decide) (by decide) rfl (Nat.le_of_ble_eq_true rfl) (fun z2 q1 => ?_)
  refine g_if_eq (pc' := 8) (tgt := 17) ⟨by omega, by omega⟩ dX7_fullOf_5 rfl rfl (fun c3 => ?_) (fun c3 => ?_)
  · replace q1 := q1.resolve_left (fun h => absurd (c3.symm.trans h.1) (by decide))
    refine g_iconst (pc' := 18) dX7_fullOf_17 rfl ?_
    refine g_ireturn dX7_fullOf_18 ?_
    exact ⟨rfl, by omega, by unfold szQ; omega⟩
  · replace q1 := q1.resolve_right (fun h => c3 h.1)
    refine g_aload_n (pc' := 9) 0 dX7_fullOf_8 rfl rfl ?_
    refine g_getR (pc' := 12) dX7_fullOf_9 rfl f_X7_15 ht.o rfl ?_
    refine g_iload_n (pc' := 13) 1 dX7_fullOf_12 rfl rfl ?_
    refine g_iald (pc' := 14) dX7_fullOf_13 rfl ht.f (by omega) (by omega) (fun v4 ev4 rv4 => ?_)
    have gv4 : v4 = F g.toNat := ev4.trans (congrFun tF _)
    have bv4 := ct.2.2.2 g.toNat (by omega)
    have cv4 := bv4.1
    clear bv4
    refine g_goto (tgt := 18) dX7_fullOf_14 rfl ?_
    refine g_ireturn dX7_fullOf_18 ?_
    exact ⟨rfl, by omega, by unfold szQ; left; exact ⟨by omega, by omega⟩⟩
set_option maxHeartbeats 4000000 in
set_option maxRecDepth 100000 in
theorem c_X7_partOf_x (X : Cx) (M : Mm) (t : Nat) (ht : isT t) (ho : okT M t) (g : Int) (hg : inI g) (s : Int) (hs : inI s) (a b : Nat) (n : Int) (P : Nat → Int) (L : Int) (F Z : Nat → Int) (tv : TV M t a b n P L F Z) (ct : CT n P L F Z) : Con X 1 yX7_partOf cX7_partOf 3 (some .long) [vr X t, vi g, vi s] M (Ql (fun r M1 => M1 = M ∧ ((0 ≤ r ∧ r ≤ 6000000000000000) ∧ (((0 ≤ g ∧ g < n) ∧ (0 ≤ s ∧ s ≤ 3) ∧ r = P (g * 4 + s).toNat) ∨ (¬ ((0 ≤ g ∧ g < n) ∧ (0 ≤ s ∧ s ≤ 3)) ∧ r = 0))))) := by
  refine Con.ofG rfl (Nat.le_of_ble_eq_true rfl) ?_
  show G X 1 RX7 cX7_partOf 3 (some .long) (Ql (fun r M1 => M1 = M ∧ ((0 ≤ r ∧ r ≤ 6000000000000000) ∧ (((0 ≤ g ∧ g < n) ∧ (0 ≤ s ∧ s ≤ 3) ∧ r = P (g * 4 + s).toNat) ∨ (¬ ((0 ≤ g ∧ g < n) ∧ (0 ≤ s ∧ s ≤ 3)) ∧ r = 0))))) 0 [(0, vr X t), (1, vi g), (2, vi s)] [] M
  have tv0 := tv
  have tv1 := tv
  obtain ⟨⟨t2, t3⟩, hab, t5, tA, t4, tF, tZ⟩ := tv1
  have ctn := ct.1
  have ctL := ct.2.1
  have haa : a = t + 3 ∨ a = t + 4 := by omega
  have hbb : b = t + 3 ∨ b = t + 4 := by omega
  refine g_aload_n (pc' := 1) 0 dX7_partOf_0 rfl rfl ?_
  refine g_iload_n (pc' := 2) 1 dX7_partOf_1 rfl rfl ?_
  refine g_callVip (pc' := 5) (As := [vi g]) (b := t) (S := []) dX7_partOf_2 rfl m_X7_33 w_X7_has (c_X7_has X M t ht (TV.ok tv0 ctn) g hg) rfl ⟨_, _, _, ht.o, rfl, rfl⟩ (by decide) (by decide) rfl (Nat.le_of_ble_eq_true rfl) (fun z2 q1 => ?_)
  refine g_if_eq (pc' := 8) (tgt := 30) ⟨by omega, by omega⟩ dX7_partOf_5 rfl rfl (fun c3 => ?_) (fun c3 => ?_)
  · replace q1 := q1.resolve_left (fun h => absurd (c3.symm.trans h.1) (by decide))
    refine g_lconst (pc' := 31) (v := 0) dX7_partOf_30 rfl (by decide) ?_
    refine g_lreturn dX7_partOf_31 ?_
    exact ⟨rfl, by omega, by omega⟩
  · replace q1 := q1.resolve_right (fun h => c3 h.1)
    refine g_iload_n (pc' := 9) 2 dX7_partOf_8 rfl rfl ?_
    refine g_if_lt (pc' := 12) (tgt := 30) hs dX7_partOf_9 rfl rfl (fun c4 => ?_) (fun c4 => ?_)
    · refine g_lconst (pc' := 31) (v := 0) dX7_partOf_30 rfl (by decide) ?_
      refine g_lreturn dX7_partOf_31 ?_
      exact ⟨rfl, by omega, by omega⟩
    · refine g_iload_n (pc' := 13) 2 dX7_partOf_12 rfl rfl ?_
      refine g_iconst (pc' := 14) dX7_partOf_13 rfl ?_
      refine g_ic_ge (pc' := 17) (tgt := 30) hs (by decide) dX7_partOf_14 rfl rfl (fun c5 => ?_) (fun c5 => ?_)
      · refine g_lconst (pc' := 31) (v := 0) dX7_partOf_30 rfl (by decide) ?_
        refine g_lreturn dX7_partOf_31 ?_
        exact ⟨rfl, by omega, by omega⟩
      · refine g_aload_n (pc' := 18) 0 dX7_partOf_17 rfl rfl ?_
        refine g_getD (pc' := 21) dX7_partOf_18 rfl f_X7_18 ht.o rfl ?_
        rw [t2, Int.toNat_natCast]
        refine g_iload_n (pc' := 22) 1 dX7_partOf_21 rfl rfl ?_
        refine g_iconst (pc' := 23) dX7_partOf_22 rfl ?_
        refine g_imul (pc' := 24) dX7_partOf_23 rfl ?_
        refine g_iload_n (pc' := 25) 2 dX7_partOf_24 rfl rfl ?_
        refine g_iadd (pc' := 26) dX7_partOf_25 rfl ?_
        refine g_lald (pc' := 27) dX7_partOf_26 rfl (ht.ab haa) (by omega) (by omega) (fun v6 ev6 rv6 => ?_)
        have gv6 : v6 = P ((g * 4) + s).toNat := ev6.trans (congrFun tA _)
        refine g_goto (tgt := 31) dX7_partOf_27 rfl ?_
        refine g_lreturn dX7_partOf_31 ?_
        have pb := ct.p0 (g := g) (s := s) (by omega) (by omega)
        exact ⟨rfl, by omega, Or.inl ⟨by omega, by omega, by omega⟩⟩
set_option maxHeartbeats 4000000 in
set_option maxRecDepth 100000 in
theorem c_X7_tasteOf_x (X : Cx) (M : Mm) (t : Nat) (ht : isT t) (ho : okT M t) (g : Int) (hg : inI g) (s : Int) (hs : inI s) (a b : Nat) (n : Int) (P : Nat → Int) (L : Int) (F Z : Nat → Int) (tv : TV M t a b n P L F Z) (ct : CT n P L F Z) : Con X 1 yX7_tasteOf cX7_tasteOf 5 (some .int) [vr X t, vi g, vi s] M (Qi (fun r M1 => M1 = M ∧ ((0 ≤ r ∧ r ≤ 100) ∧ r = tsO n P L F g s))) := by
  refine Con.ofG rfl (Nat.le_of_ble_eq_true rfl) ?_
  show G X 1 RX7 cX7_tasteOf 5 (some .int) (Qi (fun r M1 => M1 = M ∧ ((0 ≤ r ∧ r ≤ 100) ∧ r = tsO n P L F g s))) 0 [(0, vr X t), (1, vi g), (2, vi s)] [] M
  have tv0 := tv
  have tv1 := tv
  obtain ⟨⟨t2, t3⟩, hab, t5, tA, t4, tF, tZ⟩ := tv1
  have ctn := ct.1
  have ctL := ct.2.1
  have haa : a = t + 3 ∨ a = t + 4 := by omega
  have hbb : b = t + 3 ∨ b = t + 4 := by omega
  refine g_aload_n (pc' := 1) 0 dX7_tasteOf_0 rfl rfl ?_
  refine g_iload_n (pc' := 2) 1 dX7_tasteOf_1 rfl rfl ?_
  refine g_callVip (pc' := 5) (As := [vi g]) (b := t) (S := []) dX7_tasteOf_2 rfl m_X7_33 w_X7_has (c_X7_has X M t ht (TV.ok tv0 ctn) g hg) rfl ⟨_, _, _, ht.o, rfl, rfl⟩ (by decide) (by decide) rfl (Nat.le_of_ble_eq_true rfl) (fun z2 q1 => ?_)
  refine g_if_eq (pc' := 8) (tgt := 17) ⟨by omega, by omega⟩ dX7_tasteOf_5 rfl rfl (fun c3 => ?_) (fun c3 => ?_)
  · replace q1 := q1.resolve_left (fun h => absurd (c3.symm.trans h.1) (by decide))
    refine g_iconst (pc' := 18) dX7_tasteOf_17 rfl ?_
    refine g_ireturn dX7_tasteOf_18 ?_
    exact ⟨rfl, by omega, by rw [tsO_n (by omega)]⟩
  · replace q1 := q1.resolve_right (fun h => c3 h.1)
    refine g_iload_n (pc' := 9) 2 dX7_tasteOf_8 rfl rfl ?_
    refine g_if_lt (pc' := 12) (tgt := 17) hs dX7_tasteOf_9 rfl rfl (fun c4 => ?_) (fun c4 => ?_)
    · refine g_iconst (pc' := 18) dX7_tasteOf_17 rfl ?_
      refine g_ireturn dX7_tasteOf_18 ?_
      exact ⟨rfl, by omega, by rw [tsO_n (by omega)]⟩
    · refine g_iload_n (pc' := 13) 2 dX7_tasteOf_12 rfl rfl ?_
      refine g_iconst (pc' := 14) dX7_tasteOf_13 rfl ?_
      refine g_ic_lt (pc' := 17) (tgt := 19) hs (by decide) dX7_tasteOf_14 rfl rfl (fun c5 => ?_) (fun c5 => ?_)
      · refine g_aload_n (pc' := 20) 0 dX7_tasteOf_19 rfl rfl ?_
        refine g_getL (pc' := 23) dX7_tasteOf_20 rfl f_X7_25 ht.o rfl (fun v6 ev6 rv6 => ?_)
        have gv6 : v6 = L := ev6.trans t4
        refine g_aload_n (pc' := 24) 0 dX7_tasteOf_23 rfl rfl ?_
        refine g_getR (pc' := 27) dX7_tasteOf_24 rfl f_X7_15 ht.o rfl ?_
        refine g_iload_n (pc' := 28) 1 dX7_tasteOf_27 rfl rfl ?_
        refine g_iald (pc' := 29) dX7_tasteOf_28 rfl ht.f (by omega) (by omega) (fun v7 ev7 rv7 => ?_)
        have gv7 : v7 = F g.toNat := ev7.trans (congrFun tF _)
        have bv7 := ct.2.2.2 g.toNat (by omega)
        have cv7 := bv7.1
        clear bv7
        refine g_i2l (pc' := 30) rv7 dX7_tasteOf_29 rfl ?_
        refine g_lmul (pc' := 31) dX7_tasteOf_30 rfl ?_
        obtain ⟨all_, hal⟩ : ∃ z : Int, z = v6 * v7 := ⟨_, rfl⟩
        rw [← hal]
        have pb := ct.p0 (g := g) (s := s) (by omega) (by omega)
        have ab : 0 ≤ all_ ∧ all_ ≤ 6000000000000000 := by
          have q := mul60 (f := v7) (L := v6) (B := 100000000000000) (by omega) (by omega) (by omega) (by omega)
          rw [hal, Int.mul_comm]; omega
        have ha2 : all_ = F g.toNat * L := by rw [hal, Int.mul_comm]; rw [show v6 = L by omega, show v7 = F g.toNat by omega]
        have ha3 : 1 ≤ all_ → 1 ≤ F g.toNat := fun z => by
          by_cases q : F g.toNat = 0
          · rw [q, Int.zero_mul] at ha2; omega
          · omega
        have ha4 : 1 ≤ F g.toNat → 1 ≤ all_ := fun z => by
          have := Int.mul_le_mul z ctL.1 (by omega) (by omega)
          omega
        refine g_lstore_n (pc' := 32) (i := 3) (L' := [(3, vl all_), (0, vr X t), (1, vi g), (2, vi s)]) dX7_tasteOf_31 rfl rfl (by decide) rfl ?_
        refine g_lload_n (pc' := 33) 0 dX7_tasteOf_32 rfl rfl ?_
        refine g_lconst (pc' := 34) (v := 0) dX7_tasteOf_33 rfl (by decide) ?_
        refine g_lc_gt (pc' := 38) (tgt := 42) ⟨by omega, by omega⟩ (by decide) dX7_tasteOf_34 dX7_tasteOf_35 rfl rfl (fun c8 => ?_) (fun c8 => ?_)
        · refine g_ldc2 (pc' := 45) (v := 100) dX7_tasteOf_42 rfl k_X7_37 ?_
          refine g_aload_n (pc' := 46) 1 dX7_tasteOf_45 rfl rfl ?_
          refine g_getD (pc' := 49) dX7_tasteOf_46 rfl f_X7_18 ht.o rfl ?_
          rw [t2, Int.toNat_natCast]
          refine g_iload_n (pc' := 50) 2 dX7_tasteOf_49 rfl rfl ?_
          refine g_iconst (pc' := 51) dX7_tasteOf_50 rfl ?_
          refine g_imul (pc' := 52) dX7_tasteOf_51 rfl ?_
          refine g_iload_n (pc' := 53) 3 dX7_tasteOf_52 rfl rfl ?_
          refine g_iadd (pc' := 54) dX7_tasteOf_53 rfl ?_
          refine g_lald (pc' := 55) dX7_tasteOf_54 rfl (ht.ab haa) (by omega) (by omega) (fun v9 ev9 rv9 => ?_)
          have gv9 : v9 = P ((g * 4) + s).toNat := ev9.trans (congrFun tA _)
          refine g_lmul (pc' := 56) dX7_tasteOf_55 rfl ?_
          refine g_lload_n (pc' := 57) 0 dX7_tasteOf_56 rfl rfl ?_
          have tb := ts_b (p := v9) (a := all_) (by omega) (by omega) (by omega)
          refine g_ldiv (pc' := 58) ⟨by omega, by omega⟩ ⟨by omega, by omega⟩ (by omega) dX7_tasteOf_57 rfl ?_
          refine g_l2i (pc' := 59) dX7_tasteOf_58 rfl ?_
          refine g_ireturn dX7_tasteOf_59 ?_
          exact ⟨rfl, by omega, by rw [tsO_y (by omega) (by omega), show L * F g.toNat = all_ by rw [ha2, Int.mul_comm], show P (g * 4 + s).toNat = v9 by omega]⟩
        · refine g_iconst (pc' := 39) dX7_tasteOf_38 rfl ?_
          refine g_goto (tgt := 59) dX7_tasteOf_39 rfl ?_
          refine g_ireturn dX7_tasteOf_59 ?_
          exact ⟨rfl, by omega, by rw [tsO_n (by omega)]⟩
      · refine g_iconst (pc' := 18) dX7_tasteOf_17 rfl ?_
        refine g_ireturn dX7_tasteOf_18 ?_
        exact ⟨rfl, by omega, by rw [tsO_n (by omega)]⟩
set_option maxHeartbeats 4000000 in
set_option maxRecDepth 100000 in
theorem c_X7_canCarry_x (X : Cx) (M : Mm) (t : Nat) (ht : isT t) (ho : okT M t) (g : Int) (hg : inI g) (k : Int) (hk : inI k) (w : Int) (hw : inI w) (a b : Nat) (n : Int) (P : Nat → Int) (L : Int) (F Z : Nat → Int) (tv : TV M t a b n P L F Z) (ct : CT n P L F Z) : Con X 2 yX7_canCarry cX7_canCarry 4 (some .boolean) [vr X t, vi g, vi k, vi w] M (Qi (fun r M1 => M1 = M ∧ ((r = 1 ∧ CANk n F Z g k w ∧ 0 ≤ k) ∨ (r = 0 ∧ ¬ (CANk n F Z g k w ∧ 0 ≤ k))))) := by
  refine Con.ofG rfl (Nat.le_of_ble_eq_true rfl) ?_
  show G X 2 RX7 cX7_canCarry 4 (some .boolean) (Qi (fun r M1 => M1 = M ∧ ((r = 1 ∧ CANk n F Z g k w ∧ 0 ≤ k) ∨ (r = 0 ∧ ¬ (CANk n F Z g k w ∧ 0 ≤ k))))) 0 [(0, vr X t), (1, vi g), (2, vi k), (3, vi w)] [] M
  have tv0 := tv
  have tv1 := tv
  obtain ⟨⟨t2, t3⟩, hab, t5, tA, t4, tF, tZ⟩ := tv1
  have ctn := ct.1
  have ctL := ct.2.1
  have haa : a = t + 3 ∨ a = t + 4 := by omega
  have hbb : b = t + 3 ∨ b = t + 4 := by omega
  refine g_iload_n (pc' := 1) 3 dX7_canCarry_0 rfl rfl ?_
  refine g_callSip (pc' := 4) (As := [vi w]) (S := []) dX7_canCarry_1 rfl m_X7_57 w_X9_isAmount (c_X9_isAmount X M w hw) rfl (by decide) (by decide) rfl (Nat.le_of_ble_eq_true rfl) (fun z2 q1 => ?_)
  refine g_if_eq (pc' := 7) (tgt := 40) ⟨by omega, by omega⟩ dX7_canCarry_4 rfl rfl (fun c3 => ?_) (fun c3 => ?_)
  · replace q1 := q1.resolve_left (fun h => absurd (c3.symm.trans h.1) (by decide))
    refine g_iconst (pc' := 41) dX7_canCarry_40 rfl ?_
    refine g_zreturn dX7_canCarry_41 (by omega) ?_
    exact ⟨rfl, by unfold CANk; omega⟩
  · replace q1 := q1.resolve_right (fun h => c3 h.1)
    refine g_iload_n (pc' := 8) 1 dX7_canCarry_7 rfl rfl ?_
    refine g_iload_n (pc' := 9) 2 dX7_canCarry_8 rfl rfl ?_
    refine g_ic_eq (pc' := 12) (tgt := 40) hg hk dX7_canCarry_9 rfl rfl (fun c4 => ?_) (fun c4 => ?_)
    · refine g_iconst (pc' := 41) dX7_canCarry_40 rfl ?_
      refine g_zreturn dX7_canCarry_41 (by omega) ?_
      exact ⟨rfl, by unfold CANk; omega⟩
    · refine g_aload_n (pc' := 13) 0 dX7_canCarry_12 rfl rfl ?_
      refine g_iload_n (pc' := 14) 1 dX7_canCarry_13 rfl rfl ?_
      refine g_callVip (pc' := 17) (As := [vi g]) (b := t) (S := []) dX7_canCarry_14 rfl m_X7_39 w_X7_fullOf (c_X7_fullOf_x X M t ht (TV.ok tv0 ctn) g hg a b n P L F Z tv0 ct) rfl ⟨_, _, _, ht.o, rfl, rfl⟩ (by decide) (by decide) rfl (Nat.le_of_ble_eq_true rfl) (fun z6 q5 => ?_)
      have q5a := q5.1
      have q5b := q5.2
      unfold szQ at q5b
      clear q5
      refine g_iload_n (pc' := 18) 3 dX7_canCarry_17 rfl rfl ?_
      refine g_ic_lt (pc' := 21) (tgt := 40) ⟨by omega, by omega⟩ hw dX7_canCarry_18 rfl rfl (fun c7 => ?_) (fun c7 => ?_)
      · refine g_iconst (pc' := 41) dX7_canCarry_40 rfl ?_
        refine g_zreturn dX7_canCarry_41 (by omega) ?_
        exact ⟨rfl, by unfold CANk; omega⟩
      · refine g_aload_n (pc' := 22) 0 dX7_canCarry_21 rfl rfl ?_
        refine g_iload_n (pc' := 23) 2 dX7_canCarry_22 rfl rfl ?_
        refine g_callVip (pc' := 26) (As := [vi k]) (b := t) (S := []) dX7_canCarry_23 rfl m_X7_63 w_X7_sizeOf (c_X7_sizeOf_x X M t ht (TV.ok tv0 ctn) k hk a b n P L F Z tv0 ct) rfl ⟨_, _, _, ht.o, rfl, rfl⟩ (by decide) (by decide) rfl (Nat.le_of_ble_eq_true rfl) (fun z9 q8 => ?_)
        have q8a := q8.1
        have q8b := q8.2
        unfold szQ at q8b
        clear q8
        refine g_aload_n (pc' := 27) 0 dX7_canCarry_26 rfl rfl ?_
        refine g_iload_n (pc' := 28) 2 dX7_canCarry_27 rfl rfl ?_
        refine g_callVip (pc' := 31) (As := [vi k]) (b := t) (S := [vi z9]) dX7_canCarry_28 rfl m_X7_39 w_X7_fullOf (c_X7_fullOf_x X M t ht (TV.ok tv0 ctn) k hk a b n P L F Z tv0 ct) rfl ⟨_, _, _, ht.o, rfl, rfl⟩ (by decide) (by decide) rfl (Nat.le_of_ble_eq_true rfl) (fun z11 q10 => ?_)
        have q10a := q10.1
        have q10b := q10.2
        unfold szQ at q10b
        clear q10
        refine g_isub (pc' := 32) dX7_canCarry_31 rfl ?_
        refine g_iload_n (pc' := 33) 3 dX7_canCarry_32 rfl rfl ?_
        refine g_ic_lt (pc' := 36) (tgt := 40) ⟨by omega, by omega⟩ hw dX7_canCarry_33 rfl rfl (fun c12 => ?_) (fun c12 => ?_)
        · refine g_iconst (pc' := 41) dX7_canCarry_40 rfl ?_
          refine g_zreturn dX7_canCarry_41 (by omega) ?_
          exact ⟨rfl, by unfold CANk; omega⟩
        · refine g_iconst (pc' := 37) dX7_canCarry_36 rfl ?_
          refine g_goto (tgt := 41) dX7_canCarry_37 rfl ?_
          refine g_zreturn dX7_canCarry_41 (by omega) ?_
          exact ⟨rfl, Or.inl ⟨rfl, by unfold CANk; omega, by omega⟩⟩
set_option maxHeartbeats 4000000 in
set_option maxRecDepth 100000 in
theorem c_X7_asStrong_x (X : Cx) (M : Mm) (t : Nat) (ht : isT t) (ho : okT M t) (g : Int) (hg : inI g) (k : Int) (hk : inI k) (s : Int) (hs : inI s) (a b : Nat) (n : Int) (P : Nat → Int) (L : Int) (F Z : Nat → Int) (tv : TV M t a b n P L F Z) (ct : CT n P L F Z) (pg : 0 ≤ g ∧ g < n) (pk : 0 ≤ k ∧ k < n) (ps : 0 ≤ s ∧ s ≤ 3) : Con X 2 yX7_asStrong cX7_asStrong 4 (some .boolean) [vr X t, vi g, vi k, vi s] M (Qi (fun r M1 => M1 = M ∧ ((r = 1 ∧ AST P F g k s) ∨ (r = 0 ∧ ¬ AST P F g k s)))) := by
  refine Con.ofG rfl (Nat.le_of_ble_eq_true rfl) ?_
  show G X 2 RX7 cX7_asStrong 4 (some .boolean) (Qi (fun r M1 => M1 = M ∧ ((r = 1 ∧ AST P F g k s) ∨ (r = 0 ∧ ¬ AST P F g k s)))) 0 [(0, vr X t), (1, vi g), (2, vi k), (3, vi s)] [] M
  have tv0 := tv
  have tv1 := tv
  obtain ⟨⟨t2, t3⟩, hab, t5, tA, t4, tF, tZ⟩ := tv1
  have ctn := ct.1
  have ctL := ct.2.1
  have haa : a = t + 3 ∨ a = t + 4 := by omega
  have hbb : b = t + 3 ∨ b = t + 4 := by omega
  have pbg := ct.p0 pg ps
  have pbk := ct.p0 pk ps
  have fbg := (ct.2.2.2 g.toNat (by omega)).1
  have fbk := (ct.2.2.2 k.toNat (by omega)).1
  refine g_aload_n (pc' := 1) 0 dX7_asStrong_0 rfl rfl ?_
  refine g_iload_n (pc' := 2) 1 dX7_asStrong_1 rfl rfl ?_
  refine g_callVip (pc' := 5) (As := [vi g]) (b := t) (S := []) dX7_asStrong_2 rfl m_X7_39 w_X7_fullOf (c_X7_fullOf_x X M t ht (TV.ok tv0 ctn) g hg a b n P L F Z tv0 ct) rfl ⟨_, _, _, ht.o, rfl, rfl⟩ (by decide) (by decide) rfl (Nat.le_of_ble_eq_true rfl) (fun z2 q1 => ?_)
  have q1a := q1.1
  have q1b := q1.2
  unfold szQ at q1b
  clear q1
  refine g_if_eq (pc' := 8) (tgt := 16) ⟨by omega, by omega⟩ dX7_asStrong_5 rfl rfl (fun c3 => ?_) (fun c3 => ?_)
  · refine g_aload_n (pc' := 17) 0 dX7_asStrong_16 rfl rfl ?_
    refine g_iload_n (pc' := 18) 1 dX7_asStrong_17 rfl rfl ?_
    refine g_iload_n (pc' := 19) 3 dX7_asStrong_18 rfl rfl ?_
    refine g_callVlp (pc' := 22) (As := [vi g, vi s]) (b := t) (S := []) dX7_asStrong_19 rfl m_X7_43 w_X7_partOf (c_X7_partOf_x X M t ht (TV.ok tv0 ctn) g hg s hs a b n P L F Z tv0 ct) rfl ⟨_, _, _, ht.o, rfl, rfl⟩ (by decide) (by decide) rfl (Nat.le_of_ble_eq_true rfl) (fun z5 q4 => ?_)
    have q4a := q4.1
    have q4b := q4.2
    clear q4
    refine g_aload_n (pc' := 23) 0 dX7_asStrong_22 rfl rfl ?_
    refine g_iload_n (pc' := 24) 2 dX7_asStrong_23 rfl rfl ?_
    refine g_iload_n (pc' := 25) 3 dX7_asStrong_24 rfl rfl ?_
    refine g_callVlp (pc' := 28) (As := [vi k, vi s]) (b := t) (S := [vl z5]) dX7_asStrong_25 rfl m_X7_43 w_X7_partOf (c_X7_partOf_x X M t ht (TV.ok tv0 ctn) k hk s hs a b n P L F Z tv0 ct) rfl ⟨_, _, _, ht.o, rfl, rfl⟩ (by decide) (by decide) rfl (Nat.le_of_ble_eq_true rfl) (fun z7 q6 => ?_)
    have q6a := q6.1
    have q6b := q6.2
    clear q6
    refine g_lc_ne (pc' := 32) (tgt := 36) ⟨by omega, by omega⟩ ⟨by omega, by omega⟩ dX7_asStrong_28 dX7_asStrong_29 rfl rfl (fun c8 => ?_) (fun c8 => ?_)
    · refine g_iconst (pc' := 37) dX7_asStrong_36 rfl ?_
      refine g_zreturn dX7_asStrong_37 (by omega) ?_
      refine ⟨rfl, ?_⟩
      have zz : AST P F g k s ↔ P (g * 4 + s).toNat = P (k * 4 + s).toNat := AST0 ct pg pk ps (by omega)
      rw [zz]
      omega
    · refine g_iconst (pc' := 33) dX7_asStrong_32 rfl ?_
      refine g_goto (tgt := 37) dX7_asStrong_33 rfl ?_
      refine g_zreturn dX7_asStrong_37 (by omega) ?_
      refine ⟨rfl, ?_⟩
      have zz : AST P F g k s ↔ P (g * 4 + s).toNat = P (k * 4 + s).toNat := AST0 ct pg pk ps (by omega)
      rw [zz]
      omega
  · refine g_aload_n (pc' := 9) 0 dX7_asStrong_8 rfl rfl ?_
    refine g_iload_n (pc' := 10) 2 dX7_asStrong_9 rfl rfl ?_
    refine g_callVip (pc' := 13) (As := [vi k]) (b := t) (S := []) dX7_asStrong_10 rfl m_X7_39 w_X7_fullOf (c_X7_fullOf_x X M t ht (TV.ok tv0 ctn) k hk a b n P L F Z tv0 ct) rfl ⟨_, _, _, ht.o, rfl, rfl⟩ (by decide) (by decide) rfl (Nat.le_of_ble_eq_true rfl) (fun z10 q9 => ?_)
    have q9a := q9.1
    have q9b := q9.2
    unfold szQ at q9b
    clear q9
    refine g_if_ne (pc' := 16) (tgt := 38) ⟨by omega, by omega⟩ dX7_asStrong_13 rfl rfl (fun c11 => ?_) (fun c11 => ?_)
    · refine g_aload_n (pc' := 39) 0 dX7_asStrong_38 rfl rfl ?_
      refine g_iload_n (pc' := 40) 1 dX7_asStrong_39 rfl rfl ?_
      refine g_iload_n (pc' := 41) 3 dX7_asStrong_40 rfl rfl ?_
      refine g_callVlp (pc' := 44) (As := [vi g, vi s]) (b := t) (S := []) dX7_asStrong_41 rfl m_X7_43 w_X7_partOf (c_X7_partOf_x X M t ht (TV.ok tv0 ctn) g hg s hs a b n P L F Z tv0 ct) rfl ⟨_, _, _, ht.o, rfl, rfl⟩ (by decide) (by decide) rfl (Nat.le_of_ble_eq_true rfl) (fun z13 q12 => ?_)
      have q12a := q12.1
      have q12b := q12.2
      clear q12
      refine g_aload_n (pc' := 45) 0 dX7_asStrong_44 rfl rfl ?_
      refine g_iload_n (pc' := 46) 2 dX7_asStrong_45 rfl rfl ?_
      refine g_callVip (pc' := 49) (As := [vi k]) (b := t) (S := [vl z13]) dX7_asStrong_46 rfl m_X7_39 w_X7_fullOf (c_X7_fullOf_x X M t ht (TV.ok tv0 ctn) k hk a b n P L F Z tv0 ct) rfl ⟨_, _, _, ht.o, rfl, rfl⟩ (by decide) (by decide) rfl (Nat.le_of_ble_eq_true rfl) (fun z15 q14 => ?_)
      have q14a := q14.1
      have q14b := q14.2
      unfold szQ at q14b
      clear q14
      refine g_i2l (pc' := 50) ⟨by omega, by omega⟩ dX7_asStrong_49 rfl ?_
      refine g_lmul (pc' := 51) dX7_asStrong_50 rfl ?_
      refine g_aload_n (pc' := 52) 0 dX7_asStrong_51 rfl rfl ?_
      refine g_iload_n (pc' := 53) 2 dX7_asStrong_52 rfl rfl ?_
      refine g_iload_n (pc' := 54) 3 dX7_asStrong_53 rfl rfl ?_
      refine g_callVlp (pc' := 57) (As := [vi k, vi s]) (b := t) (S := [vl (z13 * z15)]) dX7_asStrong_54 rfl m_X7_43 w_X7_partOf (c_X7_partOf_x X M t ht (TV.ok tv0 ctn) k hk s hs a b n P L F Z tv0 ct) rfl ⟨_, _, _, ht.o, rfl, rfl⟩ (by decide) (by decide) rfl (Nat.le_of_ble_eq_true rfl) (fun z17 q16 => ?_)
      have q16a := q16.1
      have q16b := q16.2
      clear q16
      refine g_aload_n (pc' := 58) 0 dX7_asStrong_57 rfl rfl ?_
      refine g_iload_n (pc' := 59) 1 dX7_asStrong_58 rfl rfl ?_
      refine g_callVip (pc' := 62) (As := [vi g]) (b := t) (S := [vl z17, vl (z13 * z15)]) dX7_asStrong_59 rfl m_X7_39 w_X7_fullOf (c_X7_fullOf_x X M t ht (TV.ok tv0 ctn) g hg a b n P L F Z tv0 ct) rfl ⟨_, _, _, ht.o, rfl, rfl⟩ (by decide) (by decide) rfl (Nat.le_of_ble_eq_true rfl) (fun z19 q18 => ?_)
      have q18a := q18.1
      have q18b := q18.2
      unfold szQ at q18b
      clear q18
      refine g_i2l (pc' := 63) ⟨by omega, by omega⟩ dX7_asStrong_62 rfl ?_
      refine g_lmul (pc' := 64) dX7_asStrong_63 rfl ?_
      obtain ⟨xa, hxa⟩ : ∃ z : Int, z = z13 * z15 := ⟨_, rfl⟩
      obtain ⟨xb, hxb⟩ : ∃ z : Int, z = z17 * z19 := ⟨_, rfl⟩
      rw [← hxa, ← hxb]
      have mba := mulG (x := z13) (y := z15) (by omega) (by omega) (by omega) (by omega)
      have mbb := mulG (x := z17) (y := z19) (by omega) (by omega) (by omega) (by omega)
      rw [← hxa] at mba
      rw [← hxb] at mbb
      have hast : AST P F g k s ↔ xa = xb := by
        unfold AST
        rw [if_neg (by omega), if_neg (by omega), hxa, hxb, show z13 = P (g * 4 + s).toNat by omega, show z15 = F k.toNat by omega, show z17 = P (k * 4 + s).toNat by omega, show z19 = F g.toNat by omega]
      refine g_lc_ne (pc' := 68) (tgt := 72) ⟨by omega, by omega⟩ ⟨by omega, by omega⟩ dX7_asStrong_64 dX7_asStrong_65 rfl rfl (fun c20 => ?_) (fun c20 => ?_)
      · refine g_iconst (pc' := 73) dX7_asStrong_72 rfl ?_
        refine g_zreturn dX7_asStrong_73 (by omega) ?_
        exact ⟨rfl, by rw [hast]; omega⟩
      · refine g_iconst (pc' := 69) dX7_asStrong_68 rfl ?_
        refine g_goto (tgt := 73) dX7_asStrong_69 rfl ?_
        refine g_zreturn dX7_asStrong_73 (by omega) ?_
        exact ⟨rfl, by rw [hast]; omega⟩
    · refine g_aload_n (pc' := 17) 0 dX7_asStrong_16 rfl rfl ?_
      refine g_iload_n (pc' := 18) 1 dX7_asStrong_17 rfl rfl ?_
      refine g_iload_n (pc' := 19) 3 dX7_asStrong_18 rfl rfl ?_
      refine g_callVlp (pc' := 22) (As := [vi g, vi s]) (b := t) (S := []) dX7_asStrong_19 rfl m_X7_43 w_X7_partOf (c_X7_partOf_x X M t ht (TV.ok tv0 ctn) g hg s hs a b n P L F Z tv0 ct) rfl ⟨_, _, _, ht.o, rfl, rfl⟩ (by decide) (by decide) rfl (Nat.le_of_ble_eq_true rfl) (fun z22 q21 => ?_)
      have q21a := q21.1
      have q21b := q21.2
      clear q21
      refine g_aload_n (pc' := 23) 0 dX7_asStrong_22 rfl rfl ?_
      refine g_iload_n (pc' := 24) 2 dX7_asStrong_23 rfl rfl ?_
      refine g_iload_n (pc' := 25) 3 dX7_asStrong_24 rfl rfl ?_
      refine g_callVlp (pc' := 28) (As := [vi k, vi s]) (b := t) (S := [vl z22]) dX7_asStrong_25 rfl m_X7_43 w_X7_partOf (c_X7_partOf_x X M t ht (TV.ok tv0 ctn) k hk s hs a b n P L F Z tv0 ct) rfl ⟨_, _, _, ht.o, rfl, rfl⟩ (by decide) (by decide) rfl (Nat.le_of_ble_eq_true rfl) (fun z24 q23 => ?_)
      have q23a := q23.1
      have q23b := q23.2
      clear q23
      refine g_lc_ne (pc' := 32) (tgt := 36) ⟨by omega, by omega⟩ ⟨by omega, by omega⟩ dX7_asStrong_28 dX7_asStrong_29 rfl rfl (fun c25 => ?_) (fun c25 => ?_)
      · refine g_iconst (pc' := 37) dX7_asStrong_36 rfl ?_
        refine g_zreturn dX7_asStrong_37 (by omega) ?_
        refine ⟨rfl, ?_⟩
        have zz : AST P F g k s ↔ P (g * 4 + s).toNat = P (k * 4 + s).toNat := AST0 ct pg pk ps (by omega)
        rw [zz]
        omega
      · refine g_iconst (pc' := 33) dX7_asStrong_32 rfl ?_
        refine g_goto (tgt := 37) dX7_asStrong_33 rfl ?_
        refine g_zreturn dX7_asStrong_37 (by omega) ?_
        refine ⟨rfl, ?_⟩
        have zz : AST P F g k s ↔ P (g * 4 + s).toNat = P (k * 4 + s).toNat := AST0 ct pg pk ps (by omega)
        rw [zz]
        omega
set_option maxHeartbeats 4000000 in
set_option maxRecDepth 100000 in
theorem l_X7_share_x_45 (X : Cx) (M : Mm) (t : Nat) (ht : isT t) (ho : okT M t) (g : Int) (hg : inI g) (k : Int) (hk : inI k) (w : Int) (hw : inI w) (a b : Nat) (n : Int) (P : Nat → Int) (L : Int) (F Z : Nat → Int) (tv : TV M t a b n P L F Z) (ct : CT n P L F Z) (pg : 0 ≤ g ∧ g < n) (pk : k = -1 ∨ (0 ≤ k ∧ k < n)) (pgk : g ≠ k) (pw : 1 ≤ w ∧ w ≤ F g.toNat) : ∀ (kk : Nat) (i : Int) (M1 : Mm) (h0 : 0 ≤ i) (h1 : i ≤ 4) (f1 : Fr (inT t) M M1) (u2 : M1 t 2 = (a : Int)) (u3 : M1 t 3 = (b : Int)) (u5 : M1 t 5 = n) (u4 : M1 t 4 = L) (ua : M1 a = P) (uF : M1 (t + 2) = F) (uZ : M1 (t + 1) = Z) (ib : ∀ j : Nat, (j : Int) < 4 * n → M1 b j = shS P (F g.toNat) g k w i j), (4 - i).toNat = kk → G X 1 RX7 cX7_share 7 none (Qv (fun M1 => okT M1 t ∧ Fr (inT t) M M1 ∧ M1 t 5 = M t 5 ∧ (TV M1 t a b n P L F Z ∧ ∀ j : Nat, (j : Int) < 4 * n → M1 b j = shr P (F g.toNat) g k w j))) 45 [(4, vi i), (0, vr X t), (1, vi g), (2, vi k), (3, vi w)] [] M1 := by
  intro kk
  induction kk using Nat.strongRecOn with
  | ind kk ih =>
    intro i M1 h0 h1 f1 u2 u3 u5 u4 ua uF uZ ib hmes
    have tv0 := tv
    have tv1 := tv
    obtain ⟨⟨t2, t3⟩, hab, t5, tA, t4, tF, tZ⟩ := tv1
    have ctn := ct.1
    have ctL := ct.2.1
    have haa : a = t + 3 ∨ a = t + 4 := by omega
    have hbb : b = t + 3 ∨ b = t + 4 := by omega
    have fbg := (ct.2.2.2 g.toNat (by omega)).1
    refine g_iload (pc' := 47) 0 dX7_share_45 rfl rfl ?_
    refine g_iconst (pc' := 48) dX7_share_47 rfl ?_
    refine g_ic_ge (pc' := 51) (tgt := 113) ⟨by omega, by omega⟩ (by decide) dX7_share_48 rfl rfl (fun c1 => ?_) (fun c1 => ?_)
    · refine g_vreturn dX7_share_113 ?_
      exact ⟨(TV.ok (⟨⟨u2, u3⟩, hab, u5, ua, u4, uF, uZ⟩ : TV M1 t a b n P L F Z) ctn), f1, u5.trans t5.symm, (⟨⟨u2, u3⟩, hab, u5, ua, u4, uF, uZ⟩ : TV M1 t a b n P L F Z), fun j hj => by rw [ib j hj, shS_4 _ _ _ _ _ _ (by omega)]⟩
    · refine g_aload_n (pc' := 52) 1 dX7_share_51 rfl rfl ?_
      refine g_getD (pc' := 55) dX7_share_52 rfl f_X7_18 ht.o rfl ?_
      rw [u2, Int.toNat_natCast]
      refine g_iload_n (pc' := 56) 2 dX7_share_55 rfl rfl ?_
      refine g_iconst (pc' := 57) dX7_share_56 rfl ?_
      refine g_imul (pc' := 58) dX7_share_57 rfl ?_
      refine g_iload (pc' := 60) 0 dX7_share_58 rfl rfl ?_
      refine g_iadd (pc' := 61) dX7_share_60 rfl ?_
      refine g_lald (pc' := 62) dX7_share_61 rfl (ht.ab haa) (by omega) (by omega) (fun v2 ev2 rv2 => ?_)
      have gv2 : v2 = P ((g * 4) + i).toNat := ev2.trans (congrFun ua _)
      refine g_iload_n (pc' := 63) 4 dX7_share_62 rfl rfl ?_
      refine g_i2l (pc' := 64) hw dX7_share_63 rfl ?_
      refine g_lmul (pc' := 65) dX7_share_64 rfl ?_
      obtain ⟨tk, htk⟩ : ∃ z : Int, z = v2 * w := ⟨_, rfl⟩
      rw [← htk]
      have pb := ct.p0 (g := g) (s := i) (by omega) (by omega)
      have mb := mulG (x := v2) (y := w) (by omega) (by omega) (by omega) (by omega)
      rw [← htk] at mb
      have hvt : tk = P (g * 4 + i).toNat * w := by rw [htk, show v2 = P (g * 4 + i).toNat by omega]
      refine g_lstore (pc' := 67) (L' := [(5, vl tk), (4, vi i), (0, vr X t), (1, vi g), (2, vi k), (3, vi w)]) dX7_share_65 rfl (by decide) rfl ?_
      refine g_aload_n (pc' := 68) 2 dX7_share_67 rfl rfl ?_
      refine g_getD (pc' := 71) dX7_share_68 rfl f_X7_22 ht.o rfl ?_
      rw [u3, Int.toNat_natCast]
      refine g_iload_n (pc' := 72) 3 dX7_share_71 rfl rfl ?_
      refine g_iconst (pc' := 73) dX7_share_72 rfl ?_
      refine g_imul (pc' := 74) dX7_share_73 rfl ?_
      refine g_iload (pc' := 76) 1 dX7_share_74 rfl rfl ?_
      refine g_iadd (pc' := 77) dX7_share_76 rfl ?_
      refine g_dup2_11 (pc' := 78) dX7_share_77 rfl rfl rfl ?_
      refine g_lald (pc' := 79) dX7_share_78 rfl (ht.ab hbb) (by omega) (by omega) (fun v3 ev3 rv3 => ?_)
      refine g_lload (pc' := 81) 0 dX7_share_79 rfl rfl ?_
      have hx1 : v3 = P (g * 4 + i).toNat * F g.toNat := by rw [ev3, ib _ (by omega), shS_t (by omega)]
      have mb1 := mulG (x := P (g * 4 + i).toNat) (y := F g.toNat) (by omega) (by omega) (by omega) (by omega)
      refine g_lsub (pc' := 82) dX7_share_81 rfl ?_
      refine g_last (pc' := 83) dX7_share_82 rfl (ht.ab hbb) (by omega) (by omega) ⟨by omega, by omega⟩ (fun M4 hM4 => ?_)
      have fM4 : Fr (inT t) M M4 := Fr.wr f1 hM4 (by unfold inT; omega)
      have t2_M4 : M4 t 2 = (a : Int) := (show M4 t 2 = M1 t 2 by rw [hM4]; exact mu_ne _ _ (fun z => absurd z (by omega))).trans u2
      have t3_M4 : M4 t 3 = (b : Int) := (show M4 t 3 = M1 t 3 by rw [hM4]; exact mu_ne _ _ (fun z => absurd z (by omega))).trans u3
      have t5_M4 : M4 t 5 = n := (show M4 t 5 = M1 t 5 by rw [hM4]; exact mu_ne _ _ (fun z => absurd z (by omega))).trans u5
      have t4_M4 : M4 t 4 = L := (show M4 t 4 = M1 t 4 by rw [hM4]; exact mu_ne _ _ (fun z => absurd z (by omega))).trans u4
      have ta_M4 : M4 a = P := (show M4 a = M1 a by rw [hM4]; exact mu_cell _ _ (by omega)).trans ua
      have tF_M4 : M4 (t + 2) = F := (show M4 (t + 2) = M1 (t + 2) by rw [hM4]; exact mu_cell _ _ (by omega)).trans uF
      have tZ_M4 : M4 (t + 1) = Z := (show M4 (t + 1) = M1 (t + 1) by rw [hM4]; exact mu_cell _ _ (by omega)).trans uZ
      refine g_aload_n (pc' := 84) 2 dX7_share_83 rfl rfl ?_
      refine g_iload_n (pc' := 85) 4 dX7_share_84 rfl rfl ?_
      refine g_callVip (pc' := 88) (As := [vi k]) (b := t) (S := []) dX7_share_85 rfl m_X7_33 w_X7_has (c_X7_has X M4 t ht (TV.ok (⟨⟨t2_M4, t3_M4⟩, hab, t5_M4, ta_M4, t4_M4, tF_M4, tZ_M4⟩ : TV M4 t a b n P L F Z) ctn) k hk) rfl ⟨_, _, _, ht.o, rfl, rfl⟩ (by decide) (by decide) rfl (Nat.le_of_ble_eq_true rfl) (fun z6 q5 => ?_)
      refine g_if_eq (pc' := 91) (tgt := 107) ⟨by omega, by omega⟩ dX7_share_88 rfl rfl (fun c7 => ?_) (fun c7 => ?_)
      · replace q5 := q5.resolve_left (fun h => absurd (c7.symm.trans h.1) (by decide))
        have icn := shS_m1 ib hM4 (by omega) (by omega) pg (by omega) ev3 hvt
        refine g_iinc (pc' := 110) (L' := [(4, vi (i + 1)), (5, vl tk), (0, vr X t), (1, vi g), (2, vi k), (3, vi w)]) 1 dX7_share_107 rfl rfl (by decide) rfl ?_
        refine g_goto (tgt := 45) dX7_share_110 rfl ?_
        refine g_sub [0, 2, 3, 4, 5] rfl ?_
        exact ih _ (by omega) (i + 1) M4 (by omega) (by omega) fM4 t2_M4 t3_M4 t5_M4 t4_M4 ta_M4 tF_M4 tZ_M4 icn rfl
      · replace q5 := q5.resolve_right (fun h => c7 h.1)
        refine g_aload_n (pc' := 92) 2 dX7_share_91 rfl rfl ?_
        refine g_getD (pc' := 95) dX7_share_92 rfl f_X7_22 ht.o rfl ?_
        rw [t3_M4, Int.toNat_natCast]
        refine g_iload_n (pc' := 96) 4 dX7_share_95 rfl rfl ?_
        refine g_iconst (pc' := 97) dX7_share_96 rfl ?_
        refine g_imul (pc' := 98) dX7_share_97 rfl ?_
        refine g_iload (pc' := 100) 1 dX7_share_98 rfl rfl ?_
        refine g_iadd (pc' := 101) dX7_share_100 rfl ?_
        refine g_dup2_11 (pc' := 102) dX7_share_101 rfl rfl rfl ?_
        refine g_lald (pc' := 103) dX7_share_102 rfl (ht.ab hbb) (by omega) (by omega) (fun v8 ev8 rv8 => ?_)
        refine g_lload (pc' := 105) 0 dX7_share_103 rfl rfl ?_
        have hx2 : v8 = P (k * 4 + i).toNat * F g.toNat := by rw [ev8, hM4, mu_ne _ _ (fun _ => by omega), ib _ (by omega), shS_t (by omega)]
        have pb2 := ct.p0 (g := k) (s := i) (by omega) (by omega)
        have mb2 := mulG (x := P (k * 4 + i).toNat) (y := F g.toNat) (by omega) (by omega) (by omega) (by omega)
        refine g_ladd (pc' := 106) dX7_share_105 rfl ?_
        refine g_last (pc' := 107) dX7_share_106 rfl (ht.ab hbb) (by omega) (by omega) ⟨by omega, by omega⟩ (fun M9 hM9 => ?_)
        have fM9 : Fr (inT t) M M9 := Fr.wr fM4 hM9 (by unfold inT; omega)
        have t2_M9 : M9 t 2 = (a : Int) := (show M9 t 2 = M4 t 2 by rw [hM9]; exact mu_ne _ _ (fun z => absurd z (by omega))).trans t2_M4
        have t3_M9 : M9 t 3 = (b : Int) := (show M9 t 3 = M4 t 3 by rw [hM9]; exact mu_ne _ _ (fun z => absurd z (by omega))).trans t3_M4
        have t5_M9 : M9 t 5 = n := (show M9 t 5 = M4 t 5 by rw [hM9]; exact mu_ne _ _ (fun z => absurd z (by omega))).trans t5_M4
        have t4_M9 : M9 t 4 = L := (show M9 t 4 = M4 t 4 by rw [hM9]; exact mu_ne _ _ (fun z => absurd z (by omega))).trans t4_M4
        have ta_M9 : M9 a = P := (show M9 a = M4 a by rw [hM9]; exact mu_cell _ _ (by omega)).trans ta_M4
        have tF_M9 : M9 (t + 2) = F := (show M9 (t + 2) = M4 (t + 2) by rw [hM9]; exact mu_cell _ _ (by omega)).trans tF_M4
        have tZ_M9 : M9 (t + 1) = Z := (show M9 (t + 1) = M4 (t + 1) by rw [hM9]; exact mu_cell _ _ (by omega)).trans tZ_M4
        have icM9 := shS_m2 ib hM4 hM9 (by omega) (by omega) (by omega) pg (by omega) pgk ev3 hvt ev8
        refine g_iinc (pc' := 110) (L' := [(4, vi (i + 1)), (5, vl tk), (0, vr X t), (1, vi g), (2, vi k), (3, vi w)]) 1 dX7_share_107 rfl rfl (by decide) rfl ?_
        refine g_goto (tgt := 45) dX7_share_110 rfl ?_
        refine g_sub [0, 2, 3, 4, 5] rfl ?_
        exact ih _ (by omega) (i + 1) M9 (by omega) (by omega) fM9 t2_M9 t3_M9 t5_M9 t4_M9 ta_M9 tF_M9 tZ_M9 icM9 rfl
set_option maxHeartbeats 4000000 in
set_option maxRecDepth 100000 in
theorem l_X7_share_x_3 (X : Cx) (M : Mm) (t : Nat) (ht : isT t) (ho : okT M t) (g : Int) (hg : inI g) (k : Int) (hk : inI k) (w : Int) (hw : inI w) (a b : Nat) (n : Int) (P : Nat → Int) (L : Int) (F Z : Nat → Int) (tv : TV M t a b n P L F Z) (ct : CT n P L F Z) (pg : 0 ≤ g ∧ g < n) (pk : k = -1 ∨ (0 ≤ k ∧ k < n)) (pgk : g ≠ k) (pw : 1 ≤ w ∧ w ≤ F g.toNat) : ∀ (kk : Nat) (i : Int) (M1 : Mm) (h0 : 0 ≤ i) (h1 : i ≤ 4 * n) (f1 : Fr (inT t) M M1) (u2 : M1 t 2 = (a : Int)) (u3 : M1 t 3 = (b : Int)) (u5 : M1 t 5 = n) (u4 : M1 t 4 = L) (ua : M1 a = P) (uF : M1 (t + 2) = F) (uZ : M1 (t + 1) = Z) (ib : ∀ j : Nat, (j : Int) < i → M1 b j = P j * F g.toNat), (24 - i).toNat = kk → G X 1 RX7 cX7_share 7 none (Qv (fun M1 => okT M1 t ∧ Fr (inT t) M M1 ∧ M1 t 5 = M t 5 ∧ (TV M1 t a b n P L F Z ∧ ∀ j : Nat, (j : Int) < 4 * n → M1 b j = shr P (F g.toNat) g k w j))) 3 [(4, vi i), (0, vr X t), (1, vi g), (2, vi k), (3, vi w)] [] M1 := by
  intro kk
  induction kk using Nat.strongRecOn with
  | ind kk ih =>
    intro i M1 h0 h1 f1 u2 u3 u5 u4 ua uF uZ ib hmes
    have tv0 := tv
    have tv1 := tv
    obtain ⟨⟨t2, t3⟩, hab, t5, tA, t4, tF, tZ⟩ := tv1
    have ctn := ct.1
    have ctL := ct.2.1
    have haa : a = t + 3 ∨ a = t + 4 := by omega
    have hbb : b = t + 3 ∨ b = t + 4 := by omega
    have fbg := (ct.2.2.2 g.toNat (by omega)).1
    refine g_iload (pc' := 5) 0 dX7_share_3 rfl rfl ?_
    refine g_aload_n (pc' := 6) 1 dX7_share_5 rfl rfl ?_
    refine g_getI (pc' := 9) dX7_share_6 rfl f_X7_29 ht.o rfl (fun v1 ev1 rv1 => ?_)
    have gv1 : v1 = n := ev1.trans u5
    refine g_iconst (pc' := 10) dX7_share_9 rfl ?_
    refine g_imul (pc' := 11) dX7_share_10 rfl ?_
    refine g_ic_ge (pc' := 14) (tgt := 42) ⟨by omega, by omega⟩ ⟨by omega, by omega⟩ dX7_share_11 rfl rfl (fun c2 => ?_) (fun c2 => ?_)
    · refine g_iconst (pc' := 43) dX7_share_42 rfl ?_
      refine g_istore (pc' := 45) (L' := [(4, vi 0), (0, vr X t), (1, vi g), (2, vi k), (3, vi w)]) dX7_share_43 rfl (by decide) rfl ?_
      refine g_sub [0, 1, 2, 3, 4] rfl ?_
      exact l_X7_share_x_45 X M t ht ho g hg k hk w hw a b n P L F Z tv ct pg pk pgk pw _ 0 M1 (by omega) (by omega) f1 u2 u3 u5 u4 ua uF uZ (fun j hj => by rw [shS_0]; exact ib j (by omega)) rfl
    · refine g_aload_n (pc' := 15) 1 dX7_share_14 rfl rfl ?_
      refine g_getD (pc' := 18) dX7_share_15 rfl f_X7_22 ht.o rfl ?_
      rw [u3, Int.toNat_natCast]
      refine g_iload (pc' := 20) 0 dX7_share_18 rfl rfl ?_
      refine g_aload_n (pc' := 21) 1 dX7_share_20 rfl rfl ?_
      refine g_getD (pc' := 24) dX7_share_21 rfl f_X7_18 ht.o rfl ?_
      rw [u2, Int.toNat_natCast]
      refine g_iload (pc' := 26) 0 dX7_share_24 rfl rfl ?_
      refine g_lald (pc' := 27) dX7_share_26 rfl (ht.ab haa) (by omega) (by omega) (fun v3 ev3 rv3 => ?_)
      have gv3 : v3 = P i.toNat := ev3.trans (congrFun ua _)
      refine g_aload_n (pc' := 28) 1 dX7_share_27 rfl rfl ?_
      refine g_getR (pc' := 31) dX7_share_28 rfl f_X7_15 ht.o rfl ?_
      refine g_iload_n (pc' := 32) 2 dX7_share_31 rfl rfl ?_
      refine g_iald (pc' := 33) dX7_share_32 rfl ht.f (by omega) (by omega) (fun v4 ev4 rv4 => ?_)
      have gv4 : v4 = F g.toNat := ev4.trans (congrFun uF _)
      have bv4 := ct.2.2.2 g.toNat (by omega)
      have cv4 := bv4.1
      clear bv4
      refine g_i2l (pc' := 34) rv4 dX7_share_33 rfl ?_
      refine g_lmul (pc' := 35) dX7_share_34 rfl ?_
      have pb := ct.pb (k := i.toNat) (by omega)
      have mb := mulG (x := v3) (y := v4) (by omega) (by omega) (by omega) (by omega)
      refine g_last (pc' := 36) dX7_share_35 rfl (ht.ab hbb) (by omega) (by omega) ⟨by omega, by omega⟩ (fun M5 hM5 => ?_)
      have fM5 : Fr (inT t) M M5 := Fr.wr f1 hM5 (by unfold inT; omega)
      have t2_M5 : M5 t 2 = (a : Int) := (show M5 t 2 = M1 t 2 by rw [hM5]; exact mu_ne _ _ (fun z => absurd z (by omega))).trans u2
      have t3_M5 : M5 t 3 = (b : Int) := (show M5 t 3 = M1 t 3 by rw [hM5]; exact mu_ne _ _ (fun z => absurd z (by omega))).trans u3
      have t5_M5 : M5 t 5 = n := (show M5 t 5 = M1 t 5 by rw [hM5]; exact mu_ne _ _ (fun z => absurd z (by omega))).trans u5
      have t4_M5 : M5 t 4 = L := (show M5 t 4 = M1 t 4 by rw [hM5]; exact mu_ne _ _ (fun z => absurd z (by omega))).trans u4
      have ta_M5 : M5 a = P := (show M5 a = M1 a by rw [hM5]; exact mu_cell _ _ (by omega)).trans ua
      have tF_M5 : M5 (t + 2) = F := (show M5 (t + 2) = M1 (t + 2) by rw [hM5]; exact mu_cell _ _ (by omega)).trans uF
      have tZ_M5 : M5 (t + 1) = Z := (show M5 (t + 1) = M1 (t + 1) by rw [hM5]; exact mu_cell _ _ (by omega)).trans uZ
      have ibM5 := wst (Q := fun j => P j * F g.toNat) ib hM5 (by omega) h0 (by rw [show v3 = P i.toNat by omega, show v4 = F g.toNat by omega])
      refine g_iinc (pc' := 39) (L' := [(4, vi (i + 1)), (0, vr X t), (1, vi g), (2, vi k), (3, vi w)]) 0 dX7_share_36 rfl rfl (by decide) rfl ?_
      refine g_goto (tgt := 3) dX7_share_39 rfl ?_
      refine g_sub [0, 1, 2, 3, 4] rfl ?_
      exact ih _ (by omega) (i + 1) M5 (by omega) (by omega) fM5 t2_M5 t3_M5 t5_M5 t4_M5 ta_M5 tF_M5 tZ_M5 (fun j hj => ibM5 j (by omega)) rfl
set_option maxHeartbeats 4000000 in
set_option maxRecDepth 100000 in
theorem c_X7_share_x (X : Cx) (M : Mm) (t : Nat) (ht : isT t) (ho : okT M t) (g : Int) (hg : inI g) (k : Int) (hk : inI k) (w : Int) (hw : inI w) (a b : Nat) (n : Int) (P : Nat → Int) (L : Int) (F Z : Nat → Int) (tv : TV M t a b n P L F Z) (ct : CT n P L F Z) (pg : 0 ≤ g ∧ g < n) (pk : k = -1 ∨ (0 ≤ k ∧ k < n)) (pgk : g ≠ k) (pw : 1 ≤ w ∧ w ≤ F g.toNat) : Con X 1 yX7_share cX7_share 7 none [vr X t, vi g, vi k, vi w] M (Qv (fun M1 => okT M1 t ∧ Fr (inT t) M M1 ∧ M1 t 5 = M t 5 ∧ (TV M1 t a b n P L F Z ∧ ∀ j : Nat, (j : Int) < 4 * n → M1 b j = shr P (F g.toNat) g k w j))) := by
  refine Con.ofG rfl (Nat.le_of_ble_eq_true rfl) ?_
  show G X 1 RX7 cX7_share 7 none (Qv (fun M1 => okT M1 t ∧ Fr (inT t) M M1 ∧ M1 t 5 = M t 5 ∧ (TV M1 t a b n P L F Z ∧ ∀ j : Nat, (j : Int) < 4 * n → M1 b j = shr P (F g.toNat) g k w j))) 0 [(0, vr X t), (1, vi g), (2, vi k), (3, vi w)] [] M
  have tv0 := tv
  have tv1 := tv
  obtain ⟨⟨t2, t3⟩, hab, t5, tA, t4, tF, tZ⟩ := tv1
  have ctn := ct.1
  have ctL := ct.2.1
  have haa : a = t + 3 ∨ a = t + 4 := by omega
  have hbb : b = t + 3 ∨ b = t + 4 := by omega
  have fbg := (ct.2.2.2 g.toNat (by omega)).1
  refine g_iconst (pc' := 1) dX7_share_0 rfl ?_
  refine g_istore (pc' := 3) (L' := [(4, vi 0), (0, vr X t), (1, vi g), (2, vi k), (3, vi w)]) dX7_share_1 rfl (by decide) rfl ?_
  refine g_sub [0, 1, 2, 3, 4] rfl ?_
  exact l_X7_share_x_3 X M t ht ho g hg k hk w hw a b n P L F Z tv ct pg pk pgk pw _ 0 M (by omega) (by omega) Fr.rf t2 t3 t5 t4 tA tF tZ (fun j hj => by omega) rfl
set_option maxHeartbeats 4000000 in
set_option maxRecDepth 100000 in
theorem l_X7_divisorOf_x_6 (X : Cx) (M : Mm) (t : Nat) (ht : isT t) (ho : okT M t) (a : Nat) (ha : a = t + 3 ∨ a = t + 4) (x : Int) (hx : inL x) (px : 1 ≤ x) (pq : ∀ j : Nat, (j : Int) < 4 * M t 5 → 0 ≤ M a j) : ∀ (kk : Nat) (u : Int) (i : Int) (hu : inL u) (hg : u = gF (M a) x i.toNat) (u1 : 1 ≤ u ∧ u ≤ x) (h0 : 0 ≤ i) (h1 : i ≤ 4 * M t 5), (24 - i).toNat = kk → G X 1 RX7 cX7_divisorOf 7 (some .long) (Ql (fun r M1 => M1 = M ∧ (r = gF (M a) x (4 * M t 5).toNat ∧ 1 ≤ r ∧ r ≤ x))) 6 [(4, vl u), (6, vi i), (0, vr X t), (1, vr X a)] [] M := by
  intro kk
  induction kk using Nat.strongRecOn with
  | ind kk ih =>
    intro u i hu hg u1 h0 h1 hmes
    have ho5 := ho.2.1
    have ho4 := ho.1
    refine g_iload (pc' := 8) 1 dX7_divisorOf_6 rfl rfl ?_
    refine g_aload_n (pc' := 9) 2 dX7_divisorOf_8 rfl rfl ?_
    refine g_getI (pc' := 12) dX7_divisorOf_9 rfl f_X7_29 ht.o rfl (fun v1 ev1 rv1 => ?_)
    refine g_iconst (pc' := 13) dX7_divisorOf_12 rfl ?_
    refine g_imul (pc' := 14) dX7_divisorOf_13 rfl ?_
    refine g_ic_ge (pc' := 17) (tgt := 41) ⟨by omega, by omega⟩ ⟨by omega, by omega⟩ dX7_divisorOf_14 rfl rfl (fun c2 => ?_) (fun c2 => ?_)
    · refine g_lload (pc' := 43) 0 dX7_divisorOf_41 rfl rfl ?_
      refine g_lreturn dX7_divisorOf_43 ?_
      exact ⟨rfl, gF_end (N := 4 * M t 5) hg (by omega) (by omega), by omega, by omega⟩
    · refine g_lload (pc' := 19) 0 dX7_divisorOf_17 rfl rfl ?_
      refine g_lconst (pc' := 20) (v := 1) dX7_divisorOf_19 rfl (by decide) ?_
      refine g_lc_le (pc' := 24) (tgt := 41) ⟨by omega, by omega⟩ (by decide) dX7_divisorOf_20 dX7_divisorOf_21 rfl rfl (fun c3 => ?_) (fun c3 => ?_)
      · refine g_lload (pc' := 43) 0 dX7_divisorOf_41 rfl rfl ?_
        refine g_lreturn dX7_divisorOf_43 ?_
        exact ⟨rfl, gF_end (N := 4 * M t 5) hg (by omega) (by omega), by omega, by omega⟩
      · refine g_aload_n (pc' := 25) 3 dX7_divisorOf_24 rfl rfl ?_
        refine g_iload (pc' := 27) 1 dX7_divisorOf_25 rfl rfl ?_
        refine g_lald (pc' := 28) dX7_divisorOf_27 rfl (ht.ab ha) (by omega) (by omega) (fun v4 ev4 rv4 => ?_)
        refine g_lload (pc' := 30) 0 dX7_divisorOf_28 rfl rfl ?_
        have pn := pq i.toNat (by omega)
        refine g_callSlp (pc' := 33) (As := [vl v4, vl u]) (S := []) dX7_divisorOf_30 rfl m_X7_88 w_X9_commonDivisor (c_X9_commonDivisor_x X M v4 rv4 u ⟨by omega, by omega⟩ (by omega) (by omega)) rfl (by decide) (by decide) rfl (Nat.le_of_ble_eq_true rfl) (fun z6 q5 => ?_)
        have hg2 := gF_st hg h0 ev4 q5
        have g1 := gcd1 (a := v4) (b := u) (by omega)
        rw [← q5] at g1
        refine g_lstore (pc' := 35) (L' := [(4, vl z6), (6, vi i), (0, vr X t), (1, vr X a)]) dX7_divisorOf_33 rfl (by decide) rfl ?_
        refine g_iinc (pc' := 38) (L' := [(6, vi (i + 1)), (4, vl z6), (0, vr X t), (1, vr X a)]) 1 dX7_divisorOf_35 rfl rfl (by decide) rfl ?_
        refine g_goto (tgt := 6) dX7_divisorOf_38 rfl ?_
        refine g_sub [1, 0, 2, 3] rfl ?_
        exact ih _ (by omega) z6 (i + 1) (by first | assumption | exact ⟨by omega, by omega⟩) hg2 (by omega) (by omega) (by omega) rfl
set_option maxHeartbeats 4000000 in
set_option maxRecDepth 100000 in
theorem c_X7_divisorOf_x (X : Cx) (M : Mm) (t : Nat) (ht : isT t) (ho : okT M t) (a : Nat) (ha : a = t + 3 ∨ a = t + 4) (x : Int) (hx : inL x) (px : 1 ≤ x) (pq : ∀ j : Nat, (j : Int) < 4 * M t 5 → 0 ≤ M a j) : Con X 1 yX7_divisorOf cX7_divisorOf 7 (some .long) [vr X t, vr X a, vl x] M (Ql (fun r M1 => M1 = M ∧ (r = gF (M a) x (4 * M t 5).toNat ∧ 1 ≤ r ∧ r ≤ x))) := by
  refine Con.ofG rfl (Nat.le_of_ble_eq_true rfl) ?_
  show G X 1 RX7 cX7_divisorOf 7 (some .long) (Ql (fun r M1 => M1 = M ∧ (r = gF (M a) x (4 * M t 5).toNat ∧ 1 ≤ r ∧ r ≤ x))) 0 [(0, vr X t), (1, vr X a), (2, vl x)] [] M
  have ho5 := ho.2.1
  have ho4 := ho.1
  refine g_lload_n (pc' := 1) 2 dX7_divisorOf_0 rfl rfl ?_
  refine g_lstore (pc' := 3) (L' := [(4, vl x), (0, vr X t), (1, vr X a), (2, vl x)]) dX7_divisorOf_1 rfl (by decide) rfl ?_
  refine g_iconst (pc' := 4) dX7_divisorOf_3 rfl ?_
  refine g_istore (pc' := 6) (L' := [(6, vi 0), (4, vl x), (0, vr X t), (1, vr X a), (2, vl x)]) dX7_divisorOf_4 rfl (by decide) rfl ?_
  refine g_sub [1, 0, 2, 3] rfl ?_
  exact l_X7_divisorOf_x_6 X M t ht ho a ha x hx px pq _ x 0 (by first | assumption | exact ⟨by omega, by omega⟩) rfl (by omega) (by omega) (by omega) rfl
set_option maxHeartbeats 4000000 in
set_option maxRecDepth 100000 in
theorem l_X7_divideBy_x_3 (X : Cx) (M : Mm) (t : Nat) (ht : isT t) (ho : okT M t) (a : Nat) (ha : a = t + 3 ∨ a = t + 4) (x : Int) (hx : inL x) (px : 1 ≤ x) (pd : ∀ j : Nat, (j : Int) < 4 * M t 5 → x ∣ M a j ∧ 0 ≤ M a j) : ∀ (kk : Nat) (i : Int) (M1 : Mm) (h0 : 0 ≤ i) (h1 : i ≤ 4 * M t 5) (ok1 : okT M1 t) (fr1 : Fr (inT t) M M1) (gl1 : M1 t 5 = M t 5) (fx1 : Fr (fun c => c = a) M M1) (dv : DVp (M a) (M1 a) x i (M t 5)), (24 - i).toNat = kk → G X 0 RX7 cX7_divideBy 5 none (Qv (fun M1 => okT M1 t ∧ Fr (inT t) M M1 ∧ M1 t 5 = M t 5 ∧ (Fr (fun c => c = a) M M1 ∧ DVD (M a) (M1 a) x (M t 5)))) 3 [(4, vi i), (0, vr X t), (1, vr X a), (2, vl x)] [] M1 := by
  intro kk
  induction kk using Nat.strongRecOn with
  | ind kk ih =>
    intro i M1 h0 h1 ok1 fr1 gl1 fx1 dv hmes
    have ho5 := ho.2.1
    have ho4 := ho.1
    have oa := ok1.1
    have ob := ok1.2.1
    refine g_iload (pc' := 5) 0 dX7_divideBy_3 rfl rfl ?_
    refine g_aload_n (pc' := 6) 1 dX7_divideBy_5 rfl rfl ?_
    refine g_getI (pc' := 9) dX7_divideBy_6 rfl f_X7_29 ht.o rfl (fun v1 ev1 rv1 => ?_)
    refine g_iconst (pc' := 10) dX7_divideBy_9 rfl ?_
    refine g_imul (pc' := 11) dX7_divideBy_10 rfl ?_
    refine g_ic_ge (pc' := 14) (tgt := 34) ⟨by omega, by omega⟩ ⟨by omega, by omega⟩ dX7_divideBy_11 rfl rfl (fun c2 => ?_) (fun c2 => ?_)
    · refine g_vreturn dX7_divideBy_34 ?_
      exact ⟨ok1, fr1, gl1, fx1, dv.e px (fun j hj => (pd j hj).2) (by omega)⟩
    · refine g_lload_n (pc' := 15) 3 dX7_divideBy_14 rfl rfl ?_
      refine g_lconst (pc' := 16) (v := 1) dX7_divideBy_15 rfl (by decide) ?_
      refine g_lc_le (pc' := 20) (tgt := 34) hx (by decide) dX7_divideBy_16 dX7_divideBy_17 rfl rfl (fun c3 => ?_) (fun c3 => ?_)
      · refine g_vreturn dX7_divideBy_34 ?_
        exact ⟨ok1, fr1, gl1, fx1, dv.e px (fun j hj => (pd j hj).2) (by omega)⟩
      · refine g_aload_n (pc' := 21) 2 dX7_divideBy_20 rfl rfl ?_
        refine g_iload (pc' := 23) 0 dX7_divideBy_21 rfl rfl ?_
        refine g_dup2_11 (pc' := 24) dX7_divideBy_23 rfl rfl rfl ?_
        refine g_lald (pc' := 25) dX7_divideBy_24 rfl (ht.ab ha) (by omega) (by omega) (fun v4 ev4 rv4 => ?_)
        refine g_lload_n (pc' := 26) 3 dX7_divideBy_25 rfl rfl ?_
        have pdi := pd i.toNat (by omega)
        have ev0 : v4 = M a i.toNat := by rw [ev4]; exact dv.2 _ (by omega)
        refine g_ldiv (pc' := 27) rv4 hx (by omega) dX7_divideBy_26 rfl ?_
        have dq := dvq px pdi.2 pdi.1
        rw [← ev0] at dq
        refine g_last (pc' := 28) dX7_divideBy_27 rfl (ht.ab ha) (by omega) (by omega) ⟨by omega, by omega⟩ (fun M5 hM5 => ?_)
        have kM5 : okT M5 t := okT.wr ok1 hM5 (ab_in ha).2
        have fM5 : Fr (inT t) M M5 := Fr.wr fr1 hM5 (ab_in ha).1
        have gM5 : M5 t 5 = M t 5 := (mu5 _ _ hM5 (fun z => absurd z.symm (ab_in ha).2)).trans gl1
        have fxM5 : Fr (fun c => c = a) M M5 := Fr.wr fx1 hM5 rfl
        have dvM5 := dv.s (A2 := M5 a) h0 px pdi.1 pdi.2 ev4 (by rw [hM5, mu_is])
        refine g_iinc (pc' := 31) (L' := [(4, vi (i + 1)), (0, vr X t), (1, vr X a), (2, vl x)]) 0 dX7_divideBy_28 rfl rfl (by decide) rfl ?_
        refine g_goto (tgt := 3) dX7_divideBy_31 rfl ?_
        refine g_sub [0, 1, 2, 3] rfl ?_
        exact ih _ (by omega) (i + 1) M5 (by omega) (by omega) kM5 fM5 gM5 fxM5 dvM5 rfl
set_option maxHeartbeats 4000000 in
set_option maxRecDepth 100000 in
theorem c_X7_divideBy_x (X : Cx) (M : Mm) (t : Nat) (ht : isT t) (ho : okT M t) (a : Nat) (ha : a = t + 3 ∨ a = t + 4) (x : Int) (hx : inL x) (px : 1 ≤ x) (pd : ∀ j : Nat, (j : Int) < 4 * M t 5 → x ∣ M a j ∧ 0 ≤ M a j) : Con X 0 yX7_divideBy cX7_divideBy 5 none [vr X t, vr X a, vl x] M (Qv (fun M1 => okT M1 t ∧ Fr (inT t) M M1 ∧ M1 t 5 = M t 5 ∧ (Fr (fun c => c = a) M M1 ∧ DVD (M a) (M1 a) x (M t 5)))) := by
  refine Con.ofG rfl (Nat.le_of_ble_eq_true rfl) ?_
  show G X 0 RX7 cX7_divideBy 5 none (Qv (fun M1 => okT M1 t ∧ Fr (inT t) M M1 ∧ M1 t 5 = M t 5 ∧ (Fr (fun c => c = a) M M1 ∧ DVD (M a) (M1 a) x (M t 5)))) 0 [(0, vr X t), (1, vr X a), (2, vl x)] [] M
  have ho5 := ho.2.1
  have ho4 := ho.1
  refine g_iconst (pc' := 1) dX7_divideBy_0 rfl ?_
  refine g_istore (pc' := 3) (L' := [(4, vi 0), (0, vr X t), (1, vr X a), (2, vl x)]) dX7_divideBy_1 rfl (by decide) rfl ?_
  refine g_sub [0, 1, 2, 3] rfl ?_
  exact l_X7_divideBy_x_3 X M t ht ho a ha x hx px pd _ 0 M (by omega) (by omega) ho Fr.rf rfl Fr.rf (DVp.z _ _ _) rfl
