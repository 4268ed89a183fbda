set_option maxHeartbeats 4000000 in
set_option maxRecDepth 100000 in
theorem l_X9_commonDivisor_x_9 (X : Cx) (M : Mm) (a : Int) (ha : inL a) (b : Int) (hb : inL b) (pa : 0 ≤ a) (pb : 0 ≤ b) : ∀ (kk : Nat) (u : Int) (v : Int) (i : Int) (he : EU i.toNat u v) (hg : Int.gcd u v = Int.gcd a b) (h0 : 0 ≤ i) (h1 : i ≤ 200), (200 - i).toNat = kk → G X 0 RX9 cX9_commonDivisor 11 (some .long) (Ql (fun r M1 => M1 = M ∧ (r = ((Int.gcd a b : Nat) : Int)))) 9 [(4, vl u), (6, vl v), (8, vi i)] [] M := by
  intro kk
  induction kk using Nat.strongRecOn with
  | ind kk ih =>
    intro u v i he hg h0 h1 hmes
    have hu0 := he.1
    have hv0 := he.2.1
    have hu1 := he.2.2.1
    have hv1 := he.2.2.2.1
    refine g_iload (pc' := 11) 2 dX9_commonDivisor_9 rfl rfl ?_
    refine g_sipush (pc' := 14) (v := 200) dX9_commonDivisor_11 rfl (by decide) ?_
    refine g_ic_ge (pc' := 17) (tgt := 45) ⟨by omega, by omega⟩ (by decide) dX9_commonDivisor_14 rfl rfl (fun c1 => ?_) (fun c1 => ?_)
    · refine g_lload (pc' := 47) 0 dX9_commonDivisor_45 rfl rfl ?_
      refine g_lreturn dX9_commonDivisor_47 ?_
      exact ⟨rfl, gcdE hg hu0 (by first | omega | exact EU.last he (by omega))⟩
    · refine g_lload (pc' := 19) 1 dX9_commonDivisor_17 rfl rfl ?_
      refine g_lconst (pc' := 20) (v := 0) dX9_commonDivisor_19 rfl (by decide) ?_
      refine g_lc_eq (pc' := 24) (tgt := 45) ⟨by omega, by omega⟩ (by decide) dX9_commonDivisor_20 dX9_commonDivisor_21 rfl rfl (fun c2 => ?_) (fun c2 => ?_)
      · refine g_lload (pc' := 47) 0 dX9_commonDivisor_45 rfl rfl ?_
        refine g_lreturn dX9_commonDivisor_47 ?_
        exact ⟨rfl, gcdE hg hu0 (by first | omega | exact EU.last he (by omega))⟩
      · refine g_lload (pc' := 26) 0 dX9_commonDivisor_24 rfl rfl ?_
        refine g_lload (pc' := 28) 1 dX9_commonDivisor_26 rfl rfl ?_
        refine g_lrem (pc' := 29) ⟨by omega, by omega⟩ ⟨by omega, by omega⟩ (by omega) dX9_commonDivisor_28 rfl ?_
        have he2 := EU.step he (show v ≠ 0 by omega)
        have hg2 := (gcdS hu0 (show 0 < v by omega)).trans hg
        obtain ⟨rr, hrr⟩ : ∃ z : Int, z = u.tmod v := ⟨_, rfl⟩
        rw [← hrr] at he2 hg2 ⊢
        have he3 : EU (i + 1).toNat v rr := by rw [show (i + 1).toNat = i.toNat + 1 by omega]; exact he2
        have hr0 := he3.2.1
        have hr1 := he3.2.2.2.1
        refine g_lstore (pc' := 31) (L' := [(9, vl rr), (4, vl u), (6, vl v), (8, vi i)]) dX9_commonDivisor_29 rfl (by decide) rfl ?_
        refine g_lload (pc' := 33) 2 dX9_commonDivisor_31 rfl rfl ?_
        refine g_lstore (pc' := 35) (L' := [(4, vl v), (9, vl rr), (6, vl v), (8, vi i)]) dX9_commonDivisor_33 rfl (by decide) rfl ?_
        refine g_lload (pc' := 37) 1 dX9_commonDivisor_35 rfl rfl ?_
        refine g_lstore (pc' := 39) (L' := [(6, vl rr), (4, vl v), (9, vl rr), (8, vi i)]) dX9_commonDivisor_37 rfl (by decide) rfl ?_
        refine g_iinc (pc' := 42) (L' := [(8, vi (i + 1)), (6, vl rr), (4, vl v), (9, vl rr)]) 3 dX9_commonDivisor_39 rfl rfl (by decide) rfl ?_
        refine g_goto (tgt := 9) dX9_commonDivisor_42 rfl ?_
        refine g_sub [2, 1, 0] rfl ?_
        exact ih _ (by omega) v rr (i + 1) he3 hg2 (by omega) (by omega) rfl
set_option maxHeartbeats 4000000 in
set_option maxRecDepth 100000 in
theorem c_X9_commonDivisor_x (X : Cx) (M : Mm) (a : Int) (ha : inL a) (b : Int) (hb : inL b) (pa : 0 ≤ a) (pb : 0 ≤ b) : Con X 0 yX9_commonDivisor cX9_commonDivisor 11 (some .long) [vl a, vl b] M (Ql (fun r M1 => M1 = M ∧ (r = ((Int.gcd a b : Nat) : Int)))) := by
  refine Con.ofG rfl (Nat.le_of_ble_eq_true rfl) ?_
  show G X 0 RX9 cX9_commonDivisor 11 (some .long) (Ql (fun r M1 => M1 = M ∧ (r = ((Int.gcd a b : Nat) : Int)))) 0 [(0, vl a), (2, vl b)] [] M
  refine g_lload_n (pc' := 1) 0 dX9_commonDivisor_0 rfl rfl ?_
  refine g_lstore (pc' := 3) (L' := [(4, vl a), (0, vl a), (2, vl b)]) dX9_commonDivisor_1 rfl (by decide) rfl ?_
  refine g_lload_n (pc' := 4) 2 dX9_commonDivisor_3 rfl rfl ?_
  refine g_lstore (pc' := 6) (L' := [(6, vl b), (4, vl a), (0, vl a), (2, vl b)]) dX9_commonDivisor_4 rfl (by decide) rfl ?_
  refine g_iconst (pc' := 7) dX9_commonDivisor_6 rfl ?_
  refine g_istore (pc' := 9) (L' := [(8, vi 0), (6, vl b), (4, vl a), (0, vl a), (2, vl b)]) dX9_commonDivisor_7 rfl (by decide) rfl ?_
  refine g_sub [2, 1, 0] rfl ?_
  exact l_X9_commonDivisor_x_9 X M a ha b hb pa pb _ a b 0 (EU.init ha hb pa pb) rfl (by omega) (by omega) rfl
set_option maxHeartbeats 4000000 in
set_option maxRecDepth 100000 in
theorem l_X10_common_x_6 (X : Cx) (M : Mm) (a : Int) (ha : inL a) (b : Int) (hb : inL b) (pa : 0 ≤ a) (pb : 0 ≤ b) : ∀ (kk : Nat) (x : Int) (y : Int) (hx : inL x) (hy : inL y) (x0 : 0 ≤ x) (y0 : 0 ≤ y) (hg : Int.gcd x y = Int.gcd a b), y.toNat = kk → G X 0 RX10 cX10_common 10 (some .long) (Ql (fun r M1 => M1 = M ∧ (r = ((Int.gcd a b : Nat) : Int)))) 6 [(4, vl x), (6, vl y)] [] M := by
  intro kk
  induction kk using Nat.strongRecOn with
  | ind kk ih =>
    intro x y hx hy x0 y0 hg hmes
    refine g_lload (pc' := 8) 1 dX10_common_6 rfl rfl ?_
    refine g_lconst (pc' := 9) (v := 0) dX10_common_8 rfl (by decide) ?_
    refine g_lc_eq (pc' := 13) (tgt := 31) ⟨by omega, by omega⟩ (by decide) dX10_common_9 dX10_common_10 rfl rfl (fun c1 => ?_) (fun c1 => ?_)
    · refine g_lload (pc' := 33) 0 dX10_common_31 rfl rfl ?_
      refine g_lreturn dX10_common_33 ?_
      exact ⟨rfl, gcdE hg x0 (by omega)⟩
    · refine g_lload (pc' := 15) 0 dX10_common_13 rfl rfl ?_
      refine g_lload (pc' := 17) 1 dX10_common_15 rfl rfl ?_
      refine g_lrem (pc' := 18) ⟨by omega, by omega⟩ ⟨by omega, by omega⟩ (by omega) dX10_common_17 rfl ?_
      have htm := tmr (x := x) (k := y) x0 (by omega)
      have hg2 := (gcdS x0 (show 0 < y by omega)).trans hg
      obtain ⟨rr, hrr⟩ : ∃ z : Int, z = x.tmod y := ⟨_, rfl⟩
      rw [← hrr] at htm hg2 ⊢
      refine g_lstore (pc' := 20) (L' := [(8, vl rr), (4, vl x), (6, vl y)]) dX10_common_18 rfl (by decide) rfl ?_
      refine g_lload (pc' := 22) 2 dX10_common_20 rfl rfl ?_
      refine g_lstore (pc' := 24) (L' := [(4, vl y), (8, vl rr), (6, vl y)]) dX10_common_22 rfl (by decide) rfl ?_
      refine g_lload (pc' := 26) 1 dX10_common_24 rfl rfl ?_
      refine g_lstore (pc' := 28) (L' := [(6, vl rr), (4, vl y), (8, vl rr)]) dX10_common_26 rfl (by decide) rfl ?_
      refine g_goto (tgt := 6) dX10_common_28 rfl ?_
      refine g_sub [1, 0] rfl ?_
      exact ih _ (by omega) y rr (by first | assumption | exact ⟨by omega, by omega⟩) (by first | assumption | exact ⟨by omega, by omega⟩) (by omega) (by omega) hg2 rfl
set_option maxHeartbeats 4000000 in
set_option maxRecDepth 100000 in
theorem c_X10_common_x (X : Cx) (M : Mm) (a : Int) (ha : inL a) (b : Int) (hb : inL b) (pa : 0 ≤ a) (pb : 0 ≤ b) : Con X 0 yX10_common cX10_common 10 (some .long) [vl a, vl b] M (Ql (fun r M1 => M1 = M ∧ (r = ((Int.gcd a b : Nat) : Int)))) := by
  refine Con.ofG rfl (Nat.le_of_ble_eq_true rfl) ?_
  show G X 0 RX10 cX10_common 10 (some .long) (Ql (fun r M1 => M1 = M ∧ (r = ((Int.gcd a b : Nat) : Int)))) 0 [(0, vl a), (2, vl b)] [] M
  refine g_lload_n (pc' := 1) 0 dX10_common_0 rfl rfl ?_
  refine g_lstore (pc' := 3) (L' := [(4, vl a), (0, vl a), (2, vl b)]) dX10_common_1 rfl (by decide) rfl ?_
  refine g_lload_n (pc' := 4) 2 dX10_common_3 rfl rfl ?_
  refine g_lstore (pc' := 6) (L' := [(6, vl b), (4, vl a), (0, vl a), (2, vl b)]) dX10_common_4 rfl (by decide) rfl ?_
  refine g_sub [1, 0] rfl ?_
  exact l_X10_common_x_6 X M a ha b hb pa pb _ a b (by first | assumption | exact ⟨by omega, by omega⟩) (by first | assumption | exact ⟨by omega, by omega⟩) (by omega) (by omega) rfl rfl
set_option maxHeartbeats 4000000 in
set_option maxRecDepth 100000 in
theorem l_X9_power_x_5 (X : Cx) (M : Mm) (a : Int) (ha : inL a) (n : Int) (hn : inI n) (pa : 0 ≤ a ∧ a ≤ 130) (pn : 0 ≤ n ∧ n ≤ 6) : ∀ (kk : Nat) (res : Int) (i : Int) (h0 : 0 ≤ i) (h1 : i ≤ n) (hr : res = a ^ i.toNat), (n - i).toNat = kk → G X 0 RX9 cX9_power 6 (some .long) (Ql (fun r M1 => M1 = M ∧ (r = a ^ n.toNat))) 5 [(3, vl res), (5, vi i), (0, vl a), (2, vi n)] [] M := by
  intro kk
  induction kk using Nat.strongRecOn with
  | ind kk ih =>
    intro res i h0 h1 hr hmes
    have hb0 := powR (a := a) (k := i.toNat) pa.1 pa.2 (by omega)
    rw [← hr] at hb0
    refine g_iload (pc' := 7) 1 dX9_power_5 rfl rfl ?_
    refine g_iload_n (pc' := 8) 3 dX9_power_7 rfl rfl ?_
    refine g_ic_ge (pc' := 11) (tgt := 21) ⟨by omega, by omega⟩ hn dX9_power_8 rfl rfl (fun c1 => ?_) (fun c1 => ?_)
    · refine g_lload_n (pc' := 22) 0 dX9_power_21 rfl rfl ?_
      refine g_lreturn dX9_power_22 ?_
      exact ⟨rfl, by rw [hr, show i.toNat = n.toNat by omega]⟩
    · refine g_lload_n (pc' := 12) 0 dX9_power_11 rfl rfl ?_
      refine g_lload_n (pc' := 13) 2 dX9_power_12 rfl rfl ?_
      refine g_lmul (pc' := 14) dX9_power_13 rfl ?_
      obtain ⟨pp, hpp⟩ : ∃ z : Int, z = res * a := ⟨_, rfl⟩
      rw [← hpp]
      have hpe : pp = a ^ (i + 1).toNat := by rw [show (i + 1).toNat = i.toNat + 1 by omega, Int.pow_succ, ← hr]; exact hpp
      have hb1 := powR (a := a) (k := (i + 1).toNat) pa.1 pa.2 (by omega)
      rw [← hpe] at hb1
      refine g_lstore_n (pc' := 15) (i := 3) (L' := [(3, vl pp), (5, vi i), (0, vl a), (2, vi n)]) dX9_power_14 rfl rfl (by decide) rfl ?_
      refine g_iinc (pc' := 18) (L' := [(5, vi (i + 1)), (3, vl pp), (0, vl a), (2, vi n)]) 1 dX9_power_15 rfl rfl (by decide) rfl ?_
      refine g_goto (tgt := 5) dX9_power_18 rfl ?_
      refine g_sub [1, 0, 2, 3] rfl ?_
      exact ih _ (by omega) pp (i + 1) (by omega) (by omega) hpe rfl
set_option maxHeartbeats 4000000 in
set_option maxRecDepth 100000 in
theorem c_X9_power_x (X : Cx) (M : Mm) (a : Int) (ha : inL a) (n : Int) (hn : inI n) (pa : 0 ≤ a ∧ a ≤ 130) (pn : 0 ≤ n ∧ n ≤ 6) : Con X 0 yX9_power cX9_power 6 (some .long) [vl a, vi n] M (Ql (fun r M1 => M1 = M ∧ (r = a ^ n.toNat))) := by
  refine Con.ofG rfl (Nat.le_of_ble_eq_true rfl) ?_
  show G X 0 RX9 cX9_power 6 (some .long) (Ql (fun r M1 => M1 = M ∧ (r = a ^ n.toNat))) 0 [(0, vl a), (2, vi n)] [] M
  refine g_lconst (pc' := 1) (v := 1) dX9_power_0 rfl (by decide) ?_
  refine g_lstore_n (pc' := 2) (i := 3) (L' := [(3, vl 1), (0, vl a), (2, vi n)]) dX9_power_1 rfl rfl (by decide) rfl ?_
  refine g_iconst (pc' := 3) dX9_power_2 rfl ?_
  refine g_istore (pc' := 5) (L' := [(5, vi 0), (3, vl 1), (0, vl a), (2, vi n)]) dX9_power_3 rfl (by decide) rfl ?_
  refine g_sub [1, 0, 2, 3] rfl ?_
  exact l_X9_power_x_5 X M a ha n hn pa pn _ 1 0 (by omega) (by omega) (by simp) rfl
set_option maxHeartbeats 4000000 in
set_option maxRecDepth 100000 in
theorem c_X9_lowestTerm_x (X : Cx) (M : Mm) (a : Int) (ha : inL a) (b : Int) (hb : inL b) (c : Int) (hc : inI c) (pa : 0 ≤ a) (pb : 1 ≤ b) : Con X 1 yX9_lowestTerm cX9_lowestTerm 7 (some .long) [vl a, vl b, vi c] M (Ql (fun r M1 => M1 = M ∧ (r = lowT a b c))) := by
  refine Con.ofG rfl (Nat.le_of_ble_eq_true rfl) ?_
  show G X 1 RX9 cX9_lowestTerm 7 (some .long) (Ql (fun r M1 => M1 = M ∧ (r = lowT a b c))) 0 [(0, vl a), (2, vl b), (4, vi c)] [] M
  refine g_lload_n (pc' := 1) 0 dX9_lowestTerm_0 rfl rfl ?_
  refine g_lload_n (pc' := 2) 1 dX9_lowestTerm_1 rfl rfl ?_
  refine g_callSlp (pc' := 5) (As := [vl a, vl b]) (S := []) dX9_lowestTerm_2 rfl m_X9_306 w_X9_commonDivisor (c_X9_commonDivisor_x X M a ha b hb (by omega) (by omega)) rfl (by decide) (by decide) rfl (Nat.le_of_ble_eq_true rfl) (fun z2 q1 => ?_)
  have gz2 := gcd1 (a := a) (b := b) pb
  rw [← q1] at gz2
  refine g_lstore (pc' := 7) (L' := [(5, vl z2), (0, vl a), (2, vl b), (4, vi c)]) dX9_lowestTerm_5 rfl (by decide) rfl ?_
  refine g_lload (pc' := 9) 0 dX9_lowestTerm_7 rfl rfl ?_
  refine g_lconst (pc' := 10) (v := 0) dX9_lowestTerm_9 rfl (by decide) ?_
  refine g_lc_le (pc' := 14) (tgt := 24) ⟨by omega, by omega⟩ (by decide) dX9_lowestTerm_10 dX9_lowestTerm_11 rfl rfl (fun c3 => ?_) (fun c3 => ?_)
  · refine g_ldc2 (pc' := 27) (v := (-1)) dX9_lowestTerm_24 rfl k_X9_104 ?_
    refine g_lreturn dX9_lowestTerm_27 ?_
    exact ⟨rfl, by first | omega | (rw [lowT0 (by omega), ← q1]; done) | (rw [lowT1 (by omega), ← q1]; done) | rw [lowTn (by omega) (by omega)]⟩
  · refine g_iload (pc' := 16) 3 dX9_lowestTerm_14 rfl rfl ?_
    refine g_iconst (pc' := 17) dX9_lowestTerm_16 rfl ?_
    refine g_iconst (pc' := 18) dX9_lowestTerm_17 rfl ?_
    refine g_callSip (pc' := 21) (As := [vi c, vi 0, vi 1]) (S := []) dX9_lowestTerm_18 rfl m_X9_191 w_X9_isWithin (c_X9_isWithin X M c hc 0 (by decide) 1 (by decide)) rfl (by decide) (by decide) rfl (Nat.le_of_ble_eq_true rfl) (fun z5 q4 => ?_)
    refine g_if_ne (pc' := 24) (tgt := 28) ⟨by omega, by omega⟩ dX9_lowestTerm_21 rfl rfl (fun c6 => ?_) (fun c6 => ?_)
    · replace q4 := q4.resolve_right (fun h => c6 h.1)
      refine g_iload (pc' := 30) 3 dX9_lowestTerm_28 rfl rfl ?_
      refine g_if_ne (pc' := 33) (tgt := 40) hc dX9_lowestTerm_30 rfl rfl (fun c7 => ?_) (fun c7 => ?_)
      · refine g_lload_n (pc' := 41) 2 dX9_lowestTerm_40 rfl rfl ?_
        refine g_lload (pc' := 43) 0 dX9_lowestTerm_41 rfl rfl ?_
        refine g_ldiv (pc' := 44) hb ⟨by omega, by omega⟩ (by omega) dX9_lowestTerm_43 rfl ?_
        refine g_lreturn dX9_lowestTerm_44 ?_
        exact ⟨rfl, by first | omega | (rw [lowT0 (by omega), ← q1]; done) | (rw [lowT1 (by omega), ← q1]; done) | rw [lowTn (by omega) (by omega)]⟩
      · refine g_lload_n (pc' := 34) 1 dX9_lowestTerm_33 rfl rfl ?_
        refine g_lload (pc' := 36) 0 dX9_lowestTerm_34 rfl rfl ?_
        refine g_ldiv (pc' := 37) ha ⟨by omega, by omega⟩ (by omega) dX9_lowestTerm_36 rfl ?_
        refine g_goto (tgt := 44) dX9_lowestTerm_37 rfl ?_
        refine g_lreturn dX9_lowestTerm_44 ?_
        exact ⟨rfl, by first | omega | (rw [lowT0 (by omega), ← q1]; done) | (rw [lowT1 (by omega), ← q1]; done) | rw [lowTn (by omega) (by omega)]⟩
    · replace q4 := q4.resolve_left (fun h => absurd (c6.symm.trans h.1) (by decide))
      refine g_ldc2 (pc' := 27) (v := (-1)) dX9_lowestTerm_24 rfl k_X9_104 ?_
      refine g_lreturn dX9_lowestTerm_27 ?_
      exact ⟨rfl, by first | omega | (rw [lowT0 (by omega), ← q1]; done) | (rw [lowT1 (by omega), ← q1]; done) | rw [lowTn (by omega) (by omega)]⟩
set_option maxHeartbeats 4000000 in
set_option maxRecDepth 100000 in
theorem c_X10_lowest_x (X : Cx) (M : Mm) (a : Int) (ha : inL a) (b : Int) (hb : inL b) (c : Int) (hc : inI c) (pa : 0 ≤ a) (pb : 1 ≤ b) (pc : c = 0 ∨ c = 1) : Con X 1 yX10_lowest cX10_lowest 7 (some .long) [vl a, vl b, vi c] M (Ql (fun r M1 => M1 = M ∧ (r = lowT a b c))) := by
  refine Con.ofG rfl (Nat.le_of_ble_eq_true rfl) ?_
  show G X 1 RX10 cX10_lowest 7 (some .long) (Ql (fun r M1 => M1 = M ∧ (r = lowT a b c))) 0 [(0, vl a), (2, vl b), (4, vi c)] [] M
  refine g_lload_n (pc' := 1) 1 dX10_lowest_0 rfl rfl ?_
  refine g_lload_n (pc' := 2) 0 dX10_lowest_1 rfl rfl ?_
  refine g_callSlp (pc' := 5) (As := [vl b, vl a]) (S := []) dX10_lowest_2 rfl m_X10_116 w_X10_common (c_X10_common_x X M b hb a ha (by omega) (by omega)) rfl (by decide) (by decide) rfl (Nat.le_of_ble_eq_true rfl) (fun z2 q1 => ?_)
  rw [Int.gcd_comm] at q1
  have gz2 := gcd1 (a := a) (b := b) pb
  rw [← q1] at gz2
  refine g_lstore (pc' := 7) (L' := [(5, vl z2), (0, vl a), (2, vl b), (4, vi c)]) dX10_lowest_5 rfl (by decide) rfl ?_
  refine g_iload (pc' := 9) 3 dX10_lowest_7 rfl rfl ?_
  refine g_if_ne (pc' := 12) (tgt := 19) hc dX10_lowest_9 rfl rfl (fun c3 => ?_) (fun c3 => ?_)
  · refine g_lload_n (pc' := 20) 2 dX10_lowest_19 rfl rfl ?_
    refine g_lload (pc' := 22) 0 dX10_lowest_20 rfl rfl ?_
    refine g_ldiv (pc' := 23) hb ⟨by omega, by omega⟩ (by omega) dX10_lowest_22 rfl ?_
    refine g_lreturn dX10_lowest_23 ?_
    exact ⟨rfl, by first | omega | (rw [lowT0 (by omega), ← q1]; done) | (rw [lowT1 (by omega), ← q1]; done) | rw [lowTn (by omega) (by omega)]⟩
  · refine g_lload_n (pc' := 13) 1 dX10_lowest_12 rfl rfl ?_
    refine g_lload (pc' := 15) 0 dX10_lowest_13 rfl rfl ?_
    refine g_ldiv (pc' := 16) ha ⟨by omega, by omega⟩ (by omega) dX10_lowest_15 rfl ?_
    refine g_goto (tgt := 23) dX10_lowest_16 rfl ?_
    refine g_lreturn dX10_lowest_23 ?_
    exact ⟨rfl, by first | omega | (rw [lowT0 (by omega), ← q1]; done) | (rw [lowT1 (by omega), ← q1]; done) | rw [lowTn (by omega) (by omega)]⟩
set_option maxHeartbeats 4000000 in
set_option maxRecDepth 100000 in
theorem c_X9_powerTerm_x (X : Cx) (M : Mm) (a : Int) (ha : inI a) (b : Int) (hb : inI b) (n : Int) (hn : inI n) (c : Int) (hc : inI c) (pa : 0 ≤ a ∧ a ≤ 130) (pb : 1 ≤ b ∧ b ≤ 130) (pn : 0 ≤ n ∧ n ≤ 6) : Con X 2 yX9_powerTerm cX9_powerTerm 4 (some .long) [vi a, vi b, vi n, vi c] M (Ql (fun r M1 => M1 = M ∧ (r = lowT (a ^ n.toNat) (b ^ n.toNat) c))) := by
  refine Con.ofG rfl (Nat.le_of_ble_eq_true rfl) ?_
  show G X 2 RX9 cX9_powerTerm 4 (some .long) (Ql (fun r M1 => M1 = M ∧ (r = lowT (a ^ n.toNat) (b ^ n.toNat) c))) 0 [(0, vi a), (1, vi b), (2, vi n), (3, vi c)] [] M
  refine g_iload_n (pc' := 1) 0 dX9_powerTerm_0 rfl rfl ?_
  refine g_i2l (pc' := 2) ha dX9_powerTerm_1 rfl ?_
  refine g_iload_n (pc' := 3) 2 dX9_powerTerm_2 rfl rfl ?_
  refine g_callSlp (pc' := 6) (As := [vl a, vi n]) (S := []) dX9_powerTerm_3 rfl m_X9_200 w_X9_power (c_X9_power_x X M a ⟨by omega, by omega⟩ n hn (by omega) (by omega)) rfl (by decide) (by decide) rfl (Nat.le_of_ble_eq_true rfl) (fun z2 q1 => ?_)
  have hz2 := powR (a := a) (k := (n).toNat) (by omega) (by omega) (by omega)
  rw [← q1] at hz2
  refine g_iload_n (pc' := 7) 1 dX9_powerTerm_6 rfl rfl ?_
  refine g_i2l (pc' := 8) hb dX9_powerTerm_7 rfl ?_
  refine g_iload_n (pc' := 9) 2 dX9_powerTerm_8 rfl rfl ?_
  refine g_callSlp (pc' := 12) (As := [vl b, vi n]) (S := [vl z2]) dX9_powerTerm_9 rfl m_X9_200 w_X9_power (c_X9_power_x X M b ⟨by omega, by omega⟩ n hn (by omega) (by omega)) rfl (by decide) (by decide) rfl (Nat.le_of_ble_eq_true rfl) (fun z4 q3 => ?_)
  have hz4 := powR (a := b) (k := (n).toNat) (by omega) (by omega) (by omega)
  rw [← q3] at hz4
  refine g_iload_n (pc' := 13) 3 dX9_powerTerm_12 rfl rfl ?_
  refine g_callSlp (pc' := 16) (As := [vl z2, vl z4, vi c]) (S := []) dX9_powerTerm_13 rfl m_X9_240 w_X9_lowestTerm (c_X9_lowestTerm_x X M z2 ⟨by omega, by omega⟩ z4 ⟨by omega, by omega⟩ c hc (by omega) (by omega)) rfl (by decide) (by decide) rfl (Nat.le_of_ble_eq_true rfl) (fun z6 q5 => ?_)
  refine g_lreturn dX9_powerTerm_16 ?_
  exact ⟨rfl, by rw [← q1, ← q3]; exact q5⟩
set_option maxHeartbeats 4000000 in
set_option maxRecDepth 100000 in
theorem c_X9_both_x (X : Cx) (M : Mm) (hi : IC M) (a : Int) (ha : inI a) (b : Int) (hb : inI b) (c : Int) (hc : inI c) (w : Int) (hw : inI w) : Con X 10 yX9_both cX9_both 5 (some .long) [vr X 0, vi a, vi b, vi c, vi w] M (Ql (fun r M1 => M1 = M ∧ (r = bothF a b c w))) := by
  refine Con.ofG rfl (Nat.le_of_ble_eq_true rfl) ?_
  show G X 10 RX9 cX9_both 5 (some .long) (Ql (fun r M1 => M1 = M ∧ (r = bothF a b c w))) 0 [(0, vr X 0), (1, vi a), (2, vi b), (3, vi c), (4, vi w)] [] M
  refine g_iload_n (pc' := 1) 1 dX9_both_0 rfl rfl ?_
  refine g_iload_n (pc' := 2) 2 dX9_both_1 rfl rfl ?_
  refine g_callSip (pc' := 5) (As := [vi a, vi b]) (S := []) dX9_both_2 rfl m_X9_187 w_X9_isBoth (c_X9_isBoth X M a ha b hb) rfl (by decide) (by decide) rfl (Nat.le_of_ble_eq_true rfl) (fun z2 q1 => ?_)
  refine g_if_eq (pc' := 8) (tgt := 18) ⟨by omega, by omega⟩ dX9_both_5 rfl rfl (fun c3 => ?_) (fun c3 => ?_)
  · replace q1 := q1.resolve_left (fun h => absurd (c3.symm.trans h.1) (by decide))
    refine g_ldc2 (pc' := 21) (v := (-1)) dX9_both_18 rfl k_X9_104 ?_
    refine g_lreturn dX9_both_21 ?_
    exact ⟨rfl, by rw [bothF_n (by omega)]⟩
  · replace q1 := q1.resolve_right (fun h => c3 h.1)
    refine g_iload_n (pc' := 9) 3 dX9_both_8 rfl rfl ?_
    refine g_iconst (pc' := 10) dX9_both_9 rfl ?_
    refine g_bipush (pc' := 12) (v := 6) dX9_both_10 rfl (by decide) ?_
    refine g_callSip (pc' := 15) (As := [vi c, vi 0, vi 6]) (S := []) dX9_both_12 rfl m_X9_191 w_X9_isWithin (c_X9_isWithin X M c hc 0 (by decide) 6 (by decide)) rfl (by decide) (by decide) rfl (Nat.le_of_ble_eq_true rfl) (fun z5 q4 => ?_)
    refine g_if_ne (pc' := 18) (tgt := 22) ⟨by omega, by omega⟩ dX9_both_15 rfl rfl (fun c6 => ?_) (fun c6 => ?_)
    · replace q4 := q4.resolve_right (fun h => c6 h.1)
      refine g_iload_n (pc' := 23) 1 dX9_both_22 rfl rfl ?_
      refine g_iload_n (pc' := 24) 2 dX9_both_23 rfl rfl ?_
      refine g_isub (pc' := 25) dX9_both_24 rfl ?_
      refine g_iload_n (pc' := 26) 1 dX9_both_25 rfl rfl ?_
      refine g_iload_n (pc' := 27) 2 dX9_both_26 rfl rfl ?_
      refine g_iadd (pc' := 28) dX9_both_27 rfl ?_
      refine g_iload_n (pc' := 29) 3 dX9_both_28 rfl rfl ?_
      refine g_iload (pc' := 31) 4 dX9_both_29 rfl rfl ?_
      refine g_callSlp (pc' := 34) (As := [vi (a - b), vi (a + b), vi c, vi w]) (S := []) dX9_both_31 rfl m_X9_194 w_X9_powerTerm (c_X9_powerTerm_x X M (a - b) ⟨by omega, by omega⟩ (a + b) ⟨by omega, by omega⟩ c hc w hw (by omega) (by omega) (by omega)) rfl (by decide) (by decide) rfl (Nat.le_of_ble_eq_true rfl) (fun z8 q7 => ?_)
      refine g_lreturn dX9_both_34 ?_
      exact ⟨rfl, by rw [bothF_p (by omega)]; exact q7⟩
    · replace q4 := q4.resolve_left (fun h => absurd (c6.symm.trans h.1) (by decide))
      refine g_ldc2 (pc' := 21) (v := (-1)) dX9_both_18 rfl k_X9_104 ?_
      refine g_lreturn dX9_both_21 ?_
      exact ⟨rfl, by rw [bothF_n (by omega)]⟩
set_option maxHeartbeats 4000000 in
set_option maxRecDepth 100000 in
theorem c_X10_both_x (X : Cx) (M : Mm) (hi : IM M) (a : Int) (ha : inI a) (b : Int) (hb : inI b) (c : Int) (hc : inI c) (e : Int) (he : inI e) : Con X 12 yX10_both cX10_both 5 (some .long) [vr X 97, vi a, vi b, vi c, vi e] M (Ql (fun r M1 => IM M1 ∧ Fr (fun c => 97 ≤ c ∧ c ≤ 116) M M1 ∧ M1 99 0 = M 99 0 ∧ M1 99 1 = M 99 1 ∧ M1 99 2 = M 99 2 ∧ M1 99 3 = M 99 3 ∧ M1 100 0 = M 100 0 ∧ M1 100 1 = M 100 1 ∧ M1 100 2 = M 100 2 ∧ M1 100 3 = M 100 3 ∧ M1 100 49 = M 100 49 ∧ M1 100 50 = M 100 50 ∧ M1 100 51 = M 100 51 ∧ M1 100 52 = M 100 52 ∧ M1 103 0 = M 103 0 ∧ M1 103 1 = M 103 1 ∧ M1 97 12 = M 97 12 ∧ (r = bothF a b c e))) := by
  refine Con.ofG rfl (Nat.le_of_ble_eq_true rfl) ?_
  show G X 12 RX10 cX10_both 5 (some .long) (Ql (fun r M1 => IM M1 ∧ Fr (fun c => 97 ≤ c ∧ c ≤ 116) M M1 ∧ M1 99 0 = M 99 0 ∧ M1 99 1 = M 99 1 ∧ M1 99 2 = M 99 2 ∧ M1 99 3 = M 99 3 ∧ M1 100 0 = M 100 0 ∧ M1 100 1 = M 100 1 ∧ M1 100 2 = M 100 2 ∧ M1 100 3 = M 100 3 ∧ M1 100 49 = M 100 49 ∧ M1 100 50 = M 100 50 ∧ M1 100 51 = M 100 51 ∧ M1 100 52 = M 100 52 ∧ M1 103 0 = M 103 0 ∧ M1 103 1 = M 103 1 ∧ M1 97 12 = M 97 12 ∧ (r = bothF a b c e))) 0 [(0, vr X 97), (1, vi a), (2, vi b), (3, vi c), (4, vi e)] [] M
  have p0 := hi.1.1
  have p1 := hi.1.2.1
  have p2 := hi.1.2.2.1
  have p3 := hi.1.2.2.2.1
  have p12 := hi.2.2.2.1
  refine g_aload_n (pc' := 1) 0 dX10_both_0 rfl rfl ?_
  refine g_iconst (pc' := 2) dX10_both_1 rfl ?_
  refine g_putI (pc' := 5) dX10_both_2 rfl p_X10_77 rfl rfl (by decide) (fun M1 hM1 => ?_)
  have iM1 : IM M1 := IM.wr hi hM1 (by unfold okv; first | decide | omega)
  have fM1 : Fr (fun c => 97 ≤ c ∧ c ≤ 116) M M1 := Fr.wr Fr.rf hM1 (by first | decide | omega | (dsimp only; omega))
  have q99_0_M1 : (M1 99 0 = M 99 0) := (show M1 99 0 = M 99 0 by rw [hM1]; exact mu_ne _ _ (by first | decide | omega))
  have q99_1_M1 : (M1 99 1 = M 99 1) := (show M1 99 1 = M 99 1 by rw [hM1]; exact mu_ne _ _ (by first | decide | omega))
  have q99_2_M1 : (M1 99 2 = M 99 2) := (show M1 99 2 = M 99 2 by rw [hM1]; exact mu_ne _ _ (by first | decide | omega))
  have q99_3_M1 : (M1 99 3 = M 99 3) := (show M1 99 3 = M 99 3 by rw [hM1]; exact mu_ne _ _ (by first | decide | omega))
  have q100_0_M1 : id (M1 100 0 = M 100 0) := (show M1 100 0 = M 100 0 by rw [hM1]; exact mu_ne _ _ (by first | decide | omega))
  have q100_1_M1 : id (M1 100 1 = M 100 1) := (show M1 100 1 = M 100 1 by rw [hM1]; exact mu_ne _ _ (by first | decide | omega))
  have q100_2_M1 : id (M1 100 2 = M 100 2) := (show M1 100 2 = M 100 2 by rw [hM1]; exact mu_ne _ _ (by first | decide | omega))
  have q100_3_M1 : id (M1 100 3 = M 100 3) := (show M1 100 3 = M 100 3 by rw [hM1]; exact mu_ne _ _ (by first | decide | omega))
  have q100_49_M1 : id (M1 100 49 = M 100 49) := (show M1 100 49 = M 100 49 by rw [hM1]; exact mu_ne _ _ (by first | decide | omega))
  have q100_50_M1 : id (M1 100 50 = M 100 50) := (show M1 100 50 = M 100 50 by rw [hM1]; exact mu_ne _ _ (by first | decide | omega))
  have q100_51_M1 : id (M1 100 51 = M 100 51) := (show M1 100 51 = M 100 51 by rw [hM1]; exact mu_ne _ _ (by first | decide | omega))
  have q100_52_M1 : id (M1 100 52 = M 100 52) := (show M1 100 52 = M 100 52 by rw [hM1]; exact mu_ne _ _ (by first | decide | omega))
  have q103_0_M1 : id (M1 103 0 = M 103 0) := (show M1 103 0 = M 103 0 by rw [hM1]; exact mu_ne _ _ (by first | decide | omega))
  have q103_1_M1 : id (M1 103 1 = M 103 1) := (show M1 103 1 = M 103 1 by rw [hM1]; exact mu_ne _ _ (by first | decide | omega))
  have q97_12_M1 : (M1 97 12 = M 97 12) := (show M1 97 12 = M 97 12 by rw [hM1]; exact mu_ne _ _ (by first | decide | omega))
  have xM1_97_0 : M1 97 0 = 0 := by rw [hM1]; exact mu_at _ _ _ _
  refine g_iload_n (pc' := 6) 1 dX10_both_5 rfl rfl ?_
  refine g_iload_n (pc' := 7) 2 dX10_both_6 rfl rfl ?_
  refine g_callSip (pc' := 10) (As := [vi a, vi b]) (S := []) dX10_both_7 rfl m_X10_331 w_X10_areBoth (c_X10_areBoth X M1 a ha b hb) rfl (by decide) (by decide) rfl (Nat.le_of_ble_eq_true rfl) (fun z3 q2 => ?_)
  refine g_if_eq (pc' := 13) (tgt := 60) ⟨by omega, by omega⟩ dX10_both_10 rfl rfl (fun c4 => ?_) (fun c4 => ?_)
  · replace q2 := q2.resolve_left (fun h => absurd (c4.symm.trans h.1) (by decide))
    refine g_ldc2 (pc' := 63) (v := (-1)) dX10_both_60 rfl k_X10_108 ?_
    refine g_lreturn dX10_both_63 ?_
    exact ⟨iM1, fM1, q99_0_M1, q99_1_M1, q99_2_M1, q99_3_M1, q100_0_M1, q100_1_M1, q100_2_M1, q100_3_M1, q100_49_M1, q100_50_M1, q100_51_M1, q100_52_M1, q103_0_M1, q103_1_M1, q97_12_M1, by rw [bothF_n (by omega)]⟩
  · replace q2 := q2.resolve_right (fun h => c4 h.1)
    refine g_iload_n (pc' := 14) 3 dX10_both_13 rfl rfl ?_
    refine g_i2l (pc' := 15) hc dX10_both_14 rfl ?_
    refine g_lconst (pc' := 16) (v := 0) dX10_both_15 rfl (by decide) ?_
    refine g_ldc2 (pc' := 19) (v := 6) dX10_both_16 rfl k_X10_335 ?_
    refine g_callSip (pc' := 22) (As := [vl c, vl 0, vl 6]) (S := []) dX10_both_19 rfl m_X10_83 w_X10_in (c_X10_in X M1 c ⟨by omega, by omega⟩ 0 (by decide) 6 (by decide)) rfl (by decide) (by decide) rfl (Nat.le_of_ble_eq_true rfl) (fun z6 q5 => ?_)
    refine g_if_eq (pc' := 25) (tgt := 60) ⟨by omega, by omega⟩ dX10_both_22 rfl rfl (fun c7 => ?_) (fun c7 => ?_)
    · replace q5 := q5.resolve_left (fun h => absurd (c7.symm.trans h.1) (by decide))
      refine g_ldc2 (pc' := 63) (v := (-1)) dX10_both_60 rfl k_X10_108 ?_
      refine g_lreturn dX10_both_63 ?_
      exact ⟨iM1, fM1, q99_0_M1, q99_1_M1, q99_2_M1, q99_3_M1, q100_0_M1, q100_1_M1, q100_2_M1, q100_3_M1, q100_49_M1, q100_50_M1, q100_51_M1, q100_52_M1, q103_0_M1, q103_1_M1, q97_12_M1, by rw [bothF_n (by omega)]⟩
    · replace q5 := q5.resolve_right (fun h => c7 h.1)
      refine g_iload (pc' := 27) 4 dX10_both_25 rfl rfl ?_
      refine g_i2l (pc' := 28) he dX10_both_27 rfl ?_
      refine g_lconst (pc' := 29) (v := 0) dX10_both_28 rfl (by decide) ?_
      refine g_lconst (pc' := 30) (v := 1) dX10_both_29 rfl (by decide) ?_
      refine g_callSip (pc' := 33) (As := [vl e, vl 0, vl 1]) (S := []) dX10_both_30 rfl m_X10_83 w_X10_in (c_X10_in X M1 e ⟨by omega, by omega⟩ 0 (by decide) 1 (by decide)) rfl (by decide) (by decide) rfl (Nat.le_of_ble_eq_true rfl) (fun z9 q8 => ?_)
      refine g_if_eq (pc' := 36) (tgt := 60) ⟨by omega, by omega⟩ dX10_both_33 rfl rfl (fun c10 => ?_) (fun c10 => ?_)
      · replace q8 := q8.resolve_left (fun h => absurd (c10.symm.trans h.1) (by decide))
        refine g_ldc2 (pc' := 63) (v := (-1)) dX10_both_60 rfl k_X10_108 ?_
        refine g_lreturn dX10_both_63 ?_
        exact ⟨iM1, fM1, q99_0_M1, q99_1_M1, q99_2_M1, q99_3_M1, q100_0_M1, q100_1_M1, q100_2_M1, q100_3_M1, q100_49_M1, q100_50_M1, q100_51_M1, q100_52_M1, q103_0_M1, q103_1_M1, q97_12_M1, by rw [bothF_n (by omega)]⟩
      · replace q8 := q8.resolve_right (fun h => c10 h.1)
        refine g_iload_n (pc' := 37) 1 dX10_both_36 rfl rfl ?_
        refine g_iload_n (pc' := 38) 2 dX10_both_37 rfl rfl ?_
        refine g_isub (pc' := 39) dX10_both_38 rfl ?_
        refine g_i2l (pc' := 40) ⟨by omega, by omega⟩ dX10_both_39 rfl ?_
        refine g_iload_n (pc' := 41) 3 dX10_both_40 rfl rfl ?_
        refine g_callSlp (pc' := 44) (As := [vl (a - b), vi c]) (S := []) dX10_both_41 rfl m_X10_337 w_X10_power (c_X10_power X M1 (a - b) ⟨by omega, by omega⟩ c hc (by omega) (by omega)) rfl (by decide) (by decide) rfl (Nat.le_of_ble_eq_true rfl) (fun z12 q11 => ?_)
        have hz12 := powR (a := a - b) (k := (c).toNat) (by omega) (by omega) (by omega)
        rw [← q11] at hz12
        refine g_iload_n (pc' := 45) 1 dX10_both_44 rfl rfl ?_
        refine g_iload_n (pc' := 46) 2 dX10_both_45 rfl rfl ?_
        refine g_iadd (pc' := 47) dX10_both_46 rfl ?_
        refine g_i2l (pc' := 48) ⟨by omega, by omega⟩ dX10_both_47 rfl ?_
        refine g_iload_n (pc' := 49) 3 dX10_both_48 rfl rfl ?_
        refine g_callSlp (pc' := 52) (As := [vl (a + b), vi c]) (S := [vl z12]) dX10_both_49 rfl m_X10_337 w_X10_power (c_X10_power X M1 (a + b) ⟨by omega, by omega⟩ c hc (by omega) (by omega)) rfl (by decide) (by decide) rfl (Nat.le_of_ble_eq_true rfl) (fun z14 q13 => ?_)
        have hz14 := powR (a := a + b) (k := (c).toNat) (by omega) (by omega) (by omega)
        rw [← q13] at hz14
        refine g_iload (pc' := 54) 4 dX10_both_52 rfl rfl ?_
        refine g_callSlp (pc' := 57) (As := [vl z12, vl z14, vi e]) (S := []) dX10_both_54 rfl m_X10_341 w_X10_lowest (c_X10_lowest_x X M1 z12 ⟨by omega, by omega⟩ z14 ⟨by omega, by omega⟩ e he (by omega) (by omega) (by omega)) rfl (by decide) (by decide) rfl (Nat.le_of_ble_eq_true rfl) (fun z16 q15 => ?_)
        refine g_goto (tgt := 63) dX10_both_57 rfl ?_
        refine g_lreturn dX10_both_63 ?_
        exact ⟨iM1, fM1, q99_0_M1, q99_1_M1, q99_2_M1, q99_3_M1, q100_0_M1, q100_1_M1, q100_2_M1, q100_3_M1, q100_49_M1, q100_50_M1, q100_51_M1, q100_52_M1, q103_0_M1, q103_1_M1, q97_12_M1, by rw [bothF_p (by omega), ← q11, ← q13]; exact q15⟩
set_option maxHeartbeats 4000000 in
set_option maxRecDepth 100000 in
theorem c_X9_cask_x (X : Cx) (M : Mm) (hi : IC M) (a : Int) (ha : inI a) (b : Int) (hb : inI b) (c : Int) (hc : inI c) (w : Int) (hw : inI w) : Con X 10 yX9_cask cX9_cask 5 (some .long) [vr X 0, vi a, vi b, vi c, vi w] M (Ql (fun r M1 => M1 = M ∧ (r = caskF a b c w))) := by
  refine Con.ofG rfl (Nat.le_of_ble_eq_true rfl) ?_
  show G X 10 RX9 cX9_cask 5 (some .long) (Ql (fun r M1 => M1 = M ∧ (r = caskF a b c w))) 0 [(0, vr X 0), (1, vi a), (2, vi b), (3, vi c), (4, vi w)] [] M
  refine g_iload_n (pc' := 1) 1 dX9_cask_0 rfl rfl ?_
  refine g_iload_n (pc' := 2) 2 dX9_cask_1 rfl rfl ?_
  refine g_callSip (pc' := 5) (As := [vi a, vi b]) (S := []) dX9_cask_2 rfl m_X9_237 w_X9_isCask (c_X9_isCask X M a ha b hb) rfl (by decide) (by decide) rfl (Nat.le_of_ble_eq_true rfl) (fun z2 q1 => ?_)
  refine g_if_eq (pc' := 8) (tgt := 18) ⟨by omega, by omega⟩ dX9_cask_5 rfl rfl (fun c3 => ?_) (fun c3 => ?_)
  · replace q1 := q1.resolve_left (fun h => absurd (c3.symm.trans h.1) (by decide))
    refine g_ldc2 (pc' := 21) (v := (-1)) dX9_cask_18 rfl k_X9_104 ?_
    refine g_lreturn dX9_cask_21 ?_
    exact ⟨rfl, by rw [caskF_n (by omega)]⟩
  · replace q1 := q1.resolve_right (fun h => c3 h.1)
    refine g_iload_n (pc' := 9) 3 dX9_cask_8 rfl rfl ?_
    refine g_iconst (pc' := 10) dX9_cask_9 rfl ?_
    refine g_bipush (pc' := 12) (v := 6) dX9_cask_10 rfl (by decide) ?_
    refine g_callSip (pc' := 15) (As := [vi c, vi 0, vi 6]) (S := []) dX9_cask_12 rfl m_X9_191 w_X9_isWithin (c_X9_isWithin X M c hc 0 (by decide) 6 (by decide)) rfl (by decide) (by decide) rfl (Nat.le_of_ble_eq_true rfl) (fun z5 q4 => ?_)
    refine g_if_ne (pc' := 18) (tgt := 22) ⟨by omega, by omega⟩ dX9_cask_15 rfl rfl (fun c6 => ?_) (fun c6 => ?_)
    · replace q4 := q4.resolve_right (fun h => c6 h.1)
      refine g_iload_n (pc' := 23) 1 dX9_cask_22 rfl rfl ?_
      refine g_iload_n (pc' := 24) 2 dX9_cask_23 rfl rfl ?_
      refine g_isub (pc' := 25) dX9_cask_24 rfl ?_
      refine g_iload_n (pc' := 26) 1 dX9_cask_25 rfl rfl ?_
      refine g_iload_n (pc' := 27) 3 dX9_cask_26 rfl rfl ?_
      refine g_iload (pc' := 29) 4 dX9_cask_27 rfl rfl ?_
      refine g_callSlp (pc' := 32) (As := [vi (a - b), vi a, vi c, vi w]) (S := []) dX9_cask_29 rfl m_X9_194 w_X9_powerTerm (c_X9_powerTerm_x X M (a - b) ⟨by omega, by omega⟩ a ha c hc w hw (by omega) (by omega) (by omega)) rfl (by decide) (by decide) rfl (Nat.le_of_ble_eq_true rfl) (fun z8 q7 => ?_)
      refine g_lreturn dX9_cask_32 ?_
      exact ⟨rfl, by rw [caskF_p (by omega)]; exact q7⟩
    · replace q4 := q4.resolve_left (fun h => absurd (c6.symm.trans h.1) (by decide))
      refine g_ldc2 (pc' := 21) (v := (-1)) dX9_cask_18 rfl k_X9_104 ?_
      refine g_lreturn dX9_cask_21 ?_
      exact ⟨rfl, by rw [caskF_n (by omega)]⟩
set_option maxHeartbeats 4000000 in
set_option maxRecDepth 100000 in
theorem c_X10_cask_x (X : Cx) (M : Mm) (hi : IM M) (a : Int) (ha : inI a) (b : Int) (hb : inI b) (c : Int) (hc : inI c) (e : Int) (he : inI e) : Con X 12 yX10_cask cX10_cask 5 (some .long) [vr X 97, vi a, vi b, vi c, vi e] M (Ql (fun r M1 => IM M1 ∧ Fr (fun c => 97 ≤ c ∧ c ≤ 116) M M1 ∧ M1 99 0 = M 99 0 ∧ M1 99 1 = M 99 1 ∧ M1 99 2 = M 99 2 ∧ M1 99 3 = M 99 3 ∧ M1 100 0 = M 100 0 ∧ M1 100 1 = M 100 1 ∧ M1 100 2 = M 100 2 ∧ M1 100 3 = M 100 3 ∧ M1 100 49 = M 100 49 ∧ M1 100 50 = M 100 50 ∧ M1 100 51 = M 100 51 ∧ M1 100 52 = M 100 52 ∧ M1 103 0 = M 103 0 ∧ M1 103 1 = M 103 1 ∧ M1 97 12 = M 97 12 ∧ (r = caskF a b c e))) := by
  refine Con.ofG rfl (Nat.le_of_ble_eq_true rfl) ?_
  show G X 12 RX10 cX10_cask 5 (some .long) (Ql (fun r M1 => IM M1 ∧ Fr (fun c => 97 ≤ c ∧ c ≤ 116) M M1 ∧ M1 99 0 = M 99 0 ∧ M1 99 1 = M 99 1 ∧ M1 99 2 = M 99 2 ∧ M1 99 3 = M 99 3 ∧ M1 100 0 = M 100 0 ∧ M1 100 1 = M 100 1 ∧ M1 100 2 = M 100 2 ∧ M1 100 3 = M 100 3 ∧ M1 100 49 = M 100 49 ∧ M1 100 50 = M 100 50 ∧ M1 100 51 = M 100 51 ∧ M1 100 52 = M 100 52 ∧ M1 103 0 = M 103 0 ∧ M1 103 1 = M 103 1 ∧ M1 97 12 = M 97 12 ∧ (r = caskF a b c e))) 0 [(0, vr X 97), (1, vi a), (2, vi b), (3, vi c), (4, vi e)] [] M
  have p0 := hi.1.1
  have p1 := hi.1.2.1
  have p2 := hi.1.2.2.1
  have p3 := hi.1.2.2.2.1
  have p12 := hi.2.2.2.1
  refine g_aload_n (pc' := 1) 0 dX10_cask_0 rfl rfl ?_
  refine g_iconst (pc' := 2) dX10_cask_1 rfl ?_
  refine g_putI (pc' := 5) dX10_cask_2 rfl p_X10_77 rfl rfl (by decide) (fun M1 hM1 => ?_)
  have iM1 : IM M1 := IM.wr hi hM1 (by unfold okv; first | decide | omega)
  have fM1 : Fr (fun c => 97 ≤ c ∧ c ≤ 116) M M1 := Fr.wr Fr.rf hM1 (by first | decide | omega | (dsimp only; omega))
  have q99_0_M1 : (M1 99 0 = M 99 0) := (show M1 99 0 = M 99 0 by rw [hM1]; exact mu_ne _ _ (by first | decide | omega))
  have q99_1_M1 : (M1 99 1 = M 99 1) := (show M1 99 1 = M 99 1 by rw [hM1]; exact mu_ne _ _ (by first | decide | omega))
  have q99_2_M1 : (M1 99 2 = M 99 2) := (show M1 99 2 = M 99 2 by rw [hM1]; exact mu_ne _ _ (by first | decide | omega))
  have q99_3_M1 : (M1 99 3 = M 99 3) := (show M1 99 3 = M 99 3 by rw [hM1]; exact mu_ne _ _ (by first | decide | omega))
  have q100_0_M1 : id (M1 100 0 = M 100 0) := (show M1 100 0 = M 100 0 by rw [hM1]; exact mu_ne _ _ (by first | decide | omega))
  have q100_1_M1 : id (M1 100 1 = M 100 1) := (show M1 100 1 = M 100 1 by rw [hM1]; exact mu_ne _ _ (by first | decide | omega))
  have q100_2_M1 : id (M1 100 2 = M 100 2) := (show M1 100 2 = M 100 2 by rw [hM1]; exact mu_ne _ _ (by first | decide | omega))
  have q100_3_M1 : id (M1 100 3 = M 100 3) := (show M1 100 3 = M 100 3 by rw [hM1]; exact mu_ne _ _ (by first | decide | omega))
  have q100_49_M1 : id (M1 100 49 = M 100 49) := (show M1 100 49 = M 100 49 by rw [hM1]; exact mu_ne _ _ (by first | decide | omega))
  have q100_50_M1 : id (M1 100 50 = M 100 50) := (show M1 100 50 = M 100 50 by rw [hM1]; exact mu_ne _ _ (by first | decide | omega))
  have q100_51_M1 : id (M1 100 51 = M 100 51) := (show M1 100 51 = M 100 51 by rw [hM1]; exact mu_ne _ _ (by first | decide | omega))
  have q100_52_M1 : id (M1 100 52 = M 100 52) := (show M1 100 52 = M 100 52 by rw [hM1]; exact mu_ne _ _ (by first | decide | omega))
  have q103_0_M1 : id (M1 103 0 = M 103 0) := (show M1 103 0 = M 103 0 by rw [hM1]; exact mu_ne _ _ (by first | decide | omega))
  have q103_1_M1 : id (M1 103 1 = M 103 1) := (show M1 103 1 = M 103 1 by rw [hM1]; exact mu_ne _ _ (by first | decide | omega))
  have q97_12_M1 : (M1 97 12 = M 97 12) := (show M1 97 12 = M 97 12 by rw [hM1]; exact mu_ne _ _ (by first | decide | omega))
  have xM1_97_0 : M1 97 0 = 0 := by rw [hM1]; exact mu_at _ _ _ _
  refine g_iload_n (pc' := 6) 1 dX10_cask_5 rfl rfl ?_
  refine g_iload_n (pc' := 7) 2 dX10_cask_6 rfl rfl ?_
  refine g_callSip (pc' := 10) (As := [vi a, vi b]) (S := []) dX10_cask_7 rfl m_X10_377 w_X10_isCask (c_X10_isCask X M1 a ha b hb) rfl (by decide) (by decide) rfl (Nat.le_of_ble_eq_true rfl) (fun z3 q2 => ?_)
  refine g_if_eq (pc' := 13) (tgt := 58) ⟨by omega, by omega⟩ dX10_cask_10 rfl rfl (fun c4 => ?_) (fun c4 => ?_)
  · replace q2 := q2.resolve_left (fun h => absurd (c4.symm.trans h.1) (by decide))
    refine g_ldc2 (pc' := 61) (v := (-1)) dX10_cask_58 rfl k_X10_108 ?_
    refine g_lreturn dX10_cask_61 ?_
    exact ⟨iM1, fM1, q99_0_M1, q99_1_M1, q99_2_M1, q99_3_M1, q100_0_M1, q100_1_M1, q100_2_M1, q100_3_M1, q100_49_M1, q100_50_M1, q100_51_M1, q100_52_M1, q103_0_M1, q103_1_M1, q97_12_M1, by rw [caskF_n (by omega)]⟩
  · replace q2 := q2.resolve_right (fun h => c4 h.1)
    refine g_iload_n (pc' := 14) 3 dX10_cask_13 rfl rfl ?_
    refine g_i2l (pc' := 15) hc dX10_cask_14 rfl ?_
    refine g_lconst (pc' := 16) (v := 0) dX10_cask_15 rfl (by decide) ?_
    refine g_ldc2 (pc' := 19) (v := 6) dX10_cask_16 rfl k_X10_335 ?_
    refine g_callSip (pc' := 22) (As := [vl c, vl 0, vl 6]) (S := []) dX10_cask_19 rfl m_X10_83 w_X10_in (c_X10_in X M1 c ⟨by omega, by omega⟩ 0 (by decide) 6 (by decide)) rfl (by decide) (by decide) rfl (Nat.le_of_ble_eq_true rfl) (fun z6 q5 => ?_)
    refine g_if_eq (pc' := 25) (tgt := 58) ⟨by omega, by omega⟩ dX10_cask_22 rfl rfl (fun c7 => ?_) (fun c7 => ?_)
    · replace q5 := q5.resolve_left (fun h => absurd (c7.symm.trans h.1) (by decide))
      refine g_ldc2 (pc' := 61) (v := (-1)) dX10_cask_58 rfl k_X10_108 ?_
      refine g_lreturn dX10_cask_61 ?_
      exact ⟨iM1, fM1, q99_0_M1, q99_1_M1, q99_2_M1, q99_3_M1, q100_0_M1, q100_1_M1, q100_2_M1, q100_3_M1, q100_49_M1, q100_50_M1, q100_51_M1, q100_52_M1, q103_0_M1, q103_1_M1, q97_12_M1, by rw [caskF_n (by omega)]⟩
    · replace q5 := q5.resolve_right (fun h => c7 h.1)
      refine g_iload (pc' := 27) 4 dX10_cask_25 rfl rfl ?_
      refine g_i2l (pc' := 28) he dX10_cask_27 rfl ?_
      refine g_lconst (pc' := 29) (v := 0) dX10_cask_28 rfl (by decide) ?_
      refine g_lconst (pc' := 30) (v := 1) dX10_cask_29 rfl (by decide) ?_
      refine g_callSip (pc' := 33) (As := [vl e, vl 0, vl 1]) (S := []) dX10_cask_30 rfl m_X10_83 w_X10_in (c_X10_in X M1 e ⟨by omega, by omega⟩ 0 (by decide) 1 (by decide)) rfl (by decide) (by decide) rfl (Nat.le_of_ble_eq_true rfl) (fun z9 q8 => ?_)
      refine g_if_eq (pc' := 36) (tgt := 58) ⟨by omega, by omega⟩ dX10_cask_33 rfl rfl (fun c10 => ?_) (fun c10 => ?_)
      · replace q8 := q8.resolve_left (fun h => absurd (c10.symm.trans h.1) (by decide))
        refine g_ldc2 (pc' := 61) (v := (-1)) dX10_cask_58 rfl k_X10_108 ?_
        refine g_lreturn dX10_cask_61 ?_
        exact ⟨iM1, fM1, q99_0_M1, q99_1_M1, q99_2_M1, q99_3_M1, q100_0_M1, q100_1_M1, q100_2_M1, q100_3_M1, q100_49_M1, q100_50_M1, q100_51_M1, q100_52_M1, q103_0_M1, q103_1_M1, q97_12_M1, by rw [caskF_n (by omega)]⟩
      · replace q8 := q8.resolve_right (fun h => c10 h.1)
        refine g_iload_n (pc' := 37) 1 dX10_cask_36 rfl rfl ?_
        refine g_iload_n (pc' := 38) 2 dX10_cask_37 rfl rfl ?_
        refine g_isub (pc' := 39) dX10_cask_38 rfl ?_
        refine g_i2l (pc' := 40) ⟨by omega, by omega⟩ dX10_cask_39 rfl ?_
        refine g_iload_n (pc' := 41) 3 dX10_cask_40 rfl rfl ?_
        refine g_callSlp (pc' := 44) (As := [vl (a - b), vi c]) (S := []) dX10_cask_41 rfl m_X10_337 w_X10_power (c_X10_power X M1 (a - b) ⟨by omega, by omega⟩ c hc (by omega) (by omega)) rfl (by decide) (by decide) rfl (Nat.le_of_ble_eq_true rfl) (fun z12 q11 => ?_)
        have hz12 := powR (a := a - b) (k := (c).toNat) (by omega) (by omega) (by omega)
        rw [← q11] at hz12
        refine g_iload_n (pc' := 45) 1 dX10_cask_44 rfl rfl ?_
        refine g_i2l (pc' := 46) ha dX10_cask_45 rfl ?_
        refine g_iload_n (pc' := 47) 3 dX10_cask_46 rfl rfl ?_
        refine g_callSlp (pc' := 50) (As := [vl a, vi c]) (S := [vl z12]) dX10_cask_47 rfl m_X10_337 w_X10_power (c_X10_power X M1 a ⟨by omega, by omega⟩ c hc (by omega) (by omega)) rfl (by decide) (by decide) rfl (Nat.le_of_ble_eq_true rfl) (fun z14 q13 => ?_)
        have hz14 := powR (a := a) (k := (c).toNat) (by omega) (by omega) (by omega)
        rw [← q13] at hz14
        refine g_iload (pc' := 52) 4 dX10_cask_50 rfl rfl ?_
        refine g_callSlp (pc' := 55) (As := [vl z12, vl z14, vi e]) (S := []) dX10_cask_52 rfl m_X10_341 w_X10_lowest (c_X10_lowest_x X M1 z12 ⟨by omega, by omega⟩ z14 ⟨by omega, by omega⟩ e he (by omega) (by omega) (by omega)) rfl (by decide) (by decide) rfl (Nat.le_of_ble_eq_true rfl) (fun z16 q15 => ?_)
        refine g_goto (tgt := 61) dX10_cask_55 rfl ?_
        refine g_lreturn dX10_cask_61 ?_
        exact ⟨iM1, fM1, q99_0_M1, q99_1_M1, q99_2_M1, q99_3_M1, q100_0_M1, q100_1_M1, q100_2_M1, q100_3_M1, q100_49_M1, q100_50_M1, q100_51_M1, q100_52_M1, q103_0_M1, q103_1_M1, q97_12_M1, by rw [caskF_p (by omega), ← q11, ← q13]; exact q15⟩
set_option maxHeartbeats 4000000 in
set_option maxRecDepth 100000 in
theorem l_X9_rounds_x_23 (X : Cx) (M : Mm) (hi : IC M) (a : Int) (ha : inI a) (b : Int) (hb : inI b) (c : Int) (hc : inI c) : ∀ (kk : Nat) (i : Int) (h0 : 0 ≤ i) (h1 : i ≤ 7) (k1 : 1 ≤ a ∧ a ≤ 60 ∧ 1 ≤ b ∧ b ≤ a - 1 ∧ 0 ≤ c ∧ c ≤ 100) (hP : ∀ k : Int, 0 ≤ k → k < i → ¬ roP a b c k), (7 - i).toNat = kk → G X 10 RX9 cX9_rounds 5 (some .int) (Qi (fun r M1 => M1 = M ∧ (roQ a b c r))) 23 [(4, vi i), (0, vr X 0), (1, vi a), (2, vi b), (3, vi c)] [] M := by
  intro kk
  induction kk using Nat.strongRecOn with
  | ind kk ih =>
    intro i h0 h1 k1 hP hmes
    refine g_iload (pc' := 25) 0 dX9_rounds_23 rfl rfl ?_
    refine g_bipush (pc' := 27) (v := 6) dX9_rounds_25 rfl (by decide) ?_
    refine g_ic_gt (pc' := 30) (tgt := 68) ⟨by omega, by omega⟩ (by decide) dX9_rounds_27 rfl rfl (fun c1 => ?_) (fun c1 => ?_)
    · refine g_iconst (pc' := 69) dX9_rounds_68 rfl ?_
      refine g_ireturn dX9_rounds_69 ?_
      exact ⟨rfl, ro_e k1 (by omega) hP⟩
    · refine g_ldc2 (pc' := 33) (v := 100) dX9_rounds_30 rfl k_X9_198 ?_
      refine g_iload_n (pc' := 34) 2 dX9_rounds_33 rfl rfl ?_
      refine g_iload_n (pc' := 35) 3 dX9_rounds_34 rfl rfl ?_
      refine g_isub (pc' := 36) dX9_rounds_35 rfl ?_
      refine g_i2l (pc' := 37) ⟨by omega, by omega⟩ dX9_rounds_36 rfl ?_
      refine g_iload (pc' := 39) 0 dX9_rounds_37 rfl rfl ?_
      refine g_callSlp (pc' := 42) (As := [vl (a - b), vi i]) (S := [vl 100]) dX9_rounds_39 rfl m_X9_200 w_X9_power (c_X9_power_x X M (a - b) ⟨by omega, by omega⟩ i ⟨by omega, by omega⟩ (by omega) (by omega)) rfl (by decide) (by decide) rfl (Nat.le_of_ble_eq_true rfl) (fun z3 q2 => ?_)
      have hz3 := powR (a := a - b) (k := (i).toNat) (by omega) (by omega) (by omega)
      rw [← q2] at hz3
      refine g_lmul (pc' := 43) dX9_rounds_42 rfl ?_
      refine g_nrmL (fun n4 rn4 en4 => ?_)
      refine g_iload_n (pc' := 44) 4 dX9_rounds_43 rfl rfl ?_
      refine g_i2l (pc' := 45) hc dX9_rounds_44 rfl ?_
      refine g_iload_n (pc' := 46) 2 dX9_rounds_45 rfl rfl ?_
      refine g_iload_n (pc' := 47) 3 dX9_rounds_46 rfl rfl ?_
      refine g_iadd (pc' := 48) dX9_rounds_47 rfl ?_
      refine g_i2l (pc' := 49) ⟨by omega, by omega⟩ dX9_rounds_48 rfl ?_
      refine g_iload (pc' := 51) 0 dX9_rounds_49 rfl rfl ?_
      refine g_callSlp (pc' := 54) (As := [vl (a + b), vi i]) (S := [vl c, vl n4]) dX9_rounds_51 rfl m_X9_200 w_X9_power (c_X9_power_x X M (a + b) ⟨by omega, by omega⟩ i ⟨by omega, by omega⟩ (by omega) (by omega)) rfl (by decide) (by decide) rfl (Nat.le_of_ble_eq_true rfl) (fun z6 q5 => ?_)
      have hz6 := powR (a := a + b) (k := (i).toNat) (by omega) (by omega) (by omega)
      rw [← q5] at hz6
      refine g_lmul (pc' := 55) dX9_rounds_54 rfl ?_
      refine g_nrmL (fun n7 rn7 en7 => ?_)
      refine g_lc_gt (pc' := 59) (tgt := 62) rn4 rn7 dX9_rounds_55 dX9_rounds_56 rfl rfl (fun c8 => ?_) (fun c8 => ?_)
      · have hmis := ro_m hP q2 q5 en4 en7 (by omega)
        refine g_iinc (pc' := 65) (L' := [(4, vi (i + 1)), (0, vr X 0), (1, vi a), (2, vi b), (3, vi c)]) 0 dX9_rounds_62 rfl rfl (by decide) rfl ?_
        refine g_goto (tgt := 23) dX9_rounds_65 rfl ?_
        refine g_sub [0, 1, 2, 3, 4] rfl ?_
        exact ih _ (by omega) (i + 1) (by omega) (by omega) (by omega) hmis rfl
      · have hhit := ro_y k1 (by omega) hP q2 q5 en4 en7 (by omega)
        refine g_iload (pc' := 61) 0 dX9_rounds_59 rfl rfl ?_
        refine g_ireturn dX9_rounds_61 ?_
        exact ⟨rfl, hhit⟩
set_option maxHeartbeats 4000000 in
set_option maxRecDepth 100000 in
theorem c_X9_rounds_x (X : Cx) (M : Mm) (hi : IC M) (a : Int) (ha : inI a) (b : Int) (hb : inI b) (c : Int) (hc : inI c) : Con X 10 yX9_rounds cX9_rounds 5 (some .int) [vr X 0, vi a, vi b, vi c] M (Qi (fun r M1 => M1 = M ∧ (roQ a b c r))) := by
  refine Con.ofG rfl (Nat.le_of_ble_eq_true rfl) ?_
  show G X 10 RX9 cX9_rounds 5 (some .int) (Qi (fun r M1 => M1 = M ∧ (roQ a b c r))) 0 [(0, vr X 0), (1, vi a), (2, vi b), (3, vi c)] [] M
  refine g_iload_n (pc' := 1) 1 dX9_rounds_0 rfl rfl ?_
  refine g_iload_n (pc' := 2) 2 dX9_rounds_1 rfl rfl ?_
  refine g_callSip (pc' := 5) (As := [vi a, vi b]) (S := []) dX9_rounds_2 rfl m_X9_187 w_X9_isBoth (c_X9_isBoth X M a ha b hb) rfl (by decide) (by decide) rfl (Nat.le_of_ble_eq_true rfl) (fun z2 q1 => ?_)
  refine g_if_eq (pc' := 8) (tgt := 18) ⟨by omega, by omega⟩ dX9_rounds_5 rfl rfl (fun c3 => ?_) (fun c3 => ?_)
  · replace q1 := q1.resolve_left (fun h => absurd (c3.symm.trans h.1) (by decide))
    refine g_iconst (pc' := 19) dX9_rounds_18 rfl ?_
    refine g_ireturn dX9_rounds_19 ?_
    exact ⟨rfl, ro_n (by omega)⟩
  · replace q1 := q1.resolve_right (fun h => c3 h.1)
    refine g_iload_n (pc' := 9) 3 dX9_rounds_8 rfl rfl ?_
    refine g_iconst (pc' := 10) dX9_rounds_9 rfl ?_
    refine g_bipush (pc' := 12) (v := 100) dX9_rounds_10 rfl (by decide) ?_
    refine g_callSip (pc' := 15) (As := [vi c, vi 0, vi 100]) (S := []) dX9_rounds_12 rfl m_X9_191 w_X9_isWithin (c_X9_isWithin X M c hc 0 (by decide) 100 (by decide)) rfl (by decide) (by decide) rfl (Nat.le_of_ble_eq_true rfl) (fun z5 q4 => ?_)
    refine g_if_ne (pc' := 18) (tgt := 20) ⟨by omega, by omega⟩ dX9_rounds_15 rfl rfl (fun c6 => ?_) (fun c6 => ?_)
    · replace q4 := q4.resolve_right (fun h => c6 h.1)
      refine g_iconst (pc' := 21) dX9_rounds_20 rfl ?_
      refine g_istore (pc' := 23) (L' := [(4, vi 0), (0, vr X 0), (1, vi a), (2, vi b), (3, vi c)]) dX9_rounds_21 rfl (by decide) rfl ?_
      refine g_sub [0, 1, 2, 3, 4] rfl ?_
      exact l_X9_rounds_x_23 X M hi a ha b hb c hc _ 0 (by omega) (by omega) (by omega) (fun k z0 z1 => absurd z1 (by omega)) rfl
    · replace q4 := q4.resolve_left (fun h => absurd (c6.symm.trans h.1) (by decide))
      refine g_iconst (pc' := 19) dX9_rounds_18 rfl ?_
      refine g_ireturn dX9_rounds_19 ?_
      exact ⟨rfl, ro_n (by omega)⟩
set_option maxHeartbeats 4000000 in
set_option maxRecDepth 100000 in
theorem l_X10_rounds_x_30 (X : Cx) (M : Mm) (hi : IM M) (a : Int) (ha : inI a) (b : Int) (hb : inI b) (c : Int) (hc : inI c) : ∀ (kk : Nat) (i : Int) (M1 : Mm) (ic1 : IM M1) (fr1 : Fr (fun c => 97 ≤ c ∧ c ≤ 116) M M1) (q99_0 : (M1 99 0 = M 99 0)) (q99_1 : (M1 99 1 = M 99 1)) (q99_2 : (M1 99 2 = M 99 2)) (q99_3 : (M1 99 3 = M 99 3)) (q100_0 : id (M1 100 0 = M 100 0)) (q100_1 : id (M1 100 1 = M 100 1)) (q100_2 : id (M1 100 2 = M 100 2)) (q100_3 : id (M1 100 3 = M 100 3)) (q100_49 : id (M1 100 49 = M 100 49)) (q100_50 : id (M1 100 50 = M 100 50)) (q100_51 : id (M1 100 51 = M 100 51)) (q100_52 : id (M1 100 52 = M 100 52)) (q103_0 : id (M1 103 0 = M 103 0)) (q103_1 : id (M1 103 1 = M 103 1)) (q97_12 : (M1 97 12 = M 97 12)) (h0 : 0 ≤ i) (h1 : i ≤ 7) (k1 : 1 ≤ a ∧ a ≤ 60 ∧ 1 ≤ b ∧ b ≤ a - 1 ∧ 0 ≤ c ∧ c ≤ 100) (hP : ∀ k : Int, 0 ≤ k → k < i → ¬ roP a b c k), (7 - i).toNat = kk → G X 12 RX10 cX10_rounds 5 (some .int) (Qi (fun r M1 => IM M1 ∧ Fr (fun c => 97 ≤ c ∧ c ≤ 116) M M1 ∧ M1 99 0 = M 99 0 ∧ M1 99 1 = M 99 1 ∧ M1 99 2 = M 99 2 ∧ M1 99 3 = M 99 3 ∧ M1 100 0 = M 100 0 ∧ M1 100 1 = M 100 1 ∧ M1 100 2 = M 100 2 ∧ M1 100 3 = M 100 3 ∧ M1 100 49 = M 100 49 ∧ M1 100 50 = M 100 50 ∧ M1 100 51 = M 100 51 ∧ M1 100 52 = M 100 52 ∧ M1 103 0 = M 103 0 ∧ M1 103 1 = M 103 1 ∧ M1 97 12 = M 97 12 ∧ (roQ a b c r))) 30 [(4, vi i), (0, vr X 97), (1, vi a), (2, vi b), (3, vi c)] [] M1 := by
  intro kk
  induction kk using Nat.strongRecOn with
  | ind kk ih =>
    intro i M1 ic1 fr1 q99_0 q99_1 q99_2 q99_3 q100_0 q100_1 q100_2 q100_3 q100_49 q100_50 q100_51 q100_52 q103_0 q103_1 q97_12 h0 h1 k1 hP hmes
    have p0 := hi.1.1
    have p1 := hi.1.2.1
    have p2 := hi.1.2.2.1
    have p3 := hi.1.2.2.2.1
    have p12 := hi.2.2.2.1
    refine g_iload (pc' := 32) 0 dX10_rounds_30 rfl rfl ?_
    refine g_bipush (pc' := 34) (v := 7) dX10_rounds_32 rfl (by decide) ?_
    refine g_ic_ge (pc' := 37) (tgt := 75) ⟨by omega, by omega⟩ (by decide) dX10_rounds_34 rfl rfl (fun c1 => ?_) (fun c1 => ?_)
    · refine g_iconst (pc' := 76) dX10_rounds_75 rfl ?_
      refine g_ireturn dX10_rounds_76 ?_
      exact ⟨ic1, fr1, q99_0, q99_1, q99_2, q99_3, q100_0, q100_1, q100_2, q100_3, q100_49, q100_50, q100_51, q100_52, q103_0, q103_1, q97_12, ro_e k1 (by omega) hP⟩
    · refine g_ldc2 (pc' := 40) (v := 100) dX10_rounds_37 rfl k_X10_110 ?_
      refine g_iload_n (pc' := 41) 2 dX10_rounds_40 rfl rfl ?_
      refine g_iload_n (pc' := 42) 3 dX10_rounds_41 rfl rfl ?_
      refine g_isub (pc' := 43) dX10_rounds_42 rfl ?_
      refine g_i2l (pc' := 44) ⟨by omega, by omega⟩ dX10_rounds_43 rfl ?_
      refine g_iload (pc' := 46) 0 dX10_rounds_44 rfl rfl ?_
      refine g_callSlp (pc' := 49) (As := [vl (a - b), vi i]) (S := [vl 100]) dX10_rounds_46 rfl m_X10_337 w_X10_power (c_X10_power X M1 (a - b) ⟨by omega, by omega⟩ i ⟨by omega, by omega⟩ (by omega) (by omega)) rfl (by decide) (by decide) rfl (Nat.le_of_ble_eq_true rfl) (fun z3 q2 => ?_)
      have hz3 := powR (a := a - b) (k := (i).toNat) (by omega) (by omega) (by omega)
      rw [← q2] at hz3
      refine g_lmul (pc' := 50) dX10_rounds_49 rfl ?_
      refine g_nrmL (fun n4 rn4 en4 => ?_)
      refine g_iload_n (pc' := 51) 4 dX10_rounds_50 rfl rfl ?_
      refine g_i2l (pc' := 52) hc dX10_rounds_51 rfl ?_
      refine g_iload_n (pc' := 53) 2 dX10_rounds_52 rfl rfl ?_
      refine g_iload_n (pc' := 54) 3 dX10_rounds_53 rfl rfl ?_
      refine g_iadd (pc' := 55) dX10_rounds_54 rfl ?_
      refine g_i2l (pc' := 56) ⟨by omega, by omega⟩ dX10_rounds_55 rfl ?_
      refine g_iload (pc' := 58) 0 dX10_rounds_56 rfl rfl ?_
      refine g_callSlp (pc' := 61) (As := [vl (a + b), vi i]) (S := [vl c, vl n4]) dX10_rounds_58 rfl m_X10_337 w_X10_power (c_X10_power X M1 (a + b) ⟨by omega, by omega⟩ i ⟨by omega, by omega⟩ (by omega) (by omega)) rfl (by decide) (by decide) rfl (Nat.le_of_ble_eq_true rfl) (fun z6 q5 => ?_)
      have hz6 := powR (a := a + b) (k := (i).toNat) (by omega) (by omega) (by omega)
      rw [← q5] at hz6
      refine g_lmul (pc' := 62) dX10_rounds_61 rfl ?_
      refine g_nrmL (fun n7 rn7 en7 => ?_)
      refine g_lc_gt (pc' := 66) (tgt := 69) rn4 rn7 dX10_rounds_62 dX10_rounds_63 rfl rfl (fun c8 => ?_) (fun c8 => ?_)
      · have hmis := ro_m hP q2 q5 en4 en7 (by omega)
        refine g_iinc (pc' := 72) (L' := [(4, vi (i + 1)), (0, vr X 97), (1, vi a), (2, vi b), (3, vi c)]) 0 dX10_rounds_69 rfl rfl (by decide) rfl ?_
        refine g_goto (tgt := 30) dX10_rounds_72 rfl ?_
        refine g_sub [0, 1, 2, 3, 4] rfl ?_
        exact ih _ (by omega) (i + 1) M1 ic1 fr1 q99_0 q99_1 q99_2 q99_3 q100_0 q100_1 q100_2 q100_3 q100_49 q100_50 q100_51 q100_52 q103_0 q103_1 q97_12 (by omega) (by omega) (by omega) hmis rfl
      · have hhit := ro_y k1 (by omega) hP q2 q5 en4 en7 (by omega)
        refine g_iload (pc' := 68) 0 dX10_rounds_66 rfl rfl ?_
        refine g_ireturn dX10_rounds_68 ?_
        exact ⟨ic1, fr1, q99_0, q99_1, q99_2, q99_3, q100_0, q100_1, q100_2, q100_3, q100_49, q100_50, q100_51, q100_52, q103_0, q103_1, q97_12, hhit⟩
set_option maxHeartbeats 4000000 in
set_option maxRecDepth 100000 in
theorem c_X10_rounds_x (X : Cx) (M : Mm) (hi : IM M) (a : Int) (ha : inI a) (b : Int) (hb : inI b) (c : Int) (hc : inI c) : Con X 12 yX10_rounds cX10_rounds 5 (some .int) [vr X 97, vi a, vi b, vi c] M (Qi (fun r M1 => IM M1 ∧ Fr (fun c => 97 ≤ c ∧ c ≤ 116) M M1 ∧ M1 99 0 = M 99 0 ∧ M1 99 1 = M 99 1 ∧ M1 99 2 = M 99 2 ∧ M1 99 3 = M 99 3 ∧ M1 100 0 = M 100 0 ∧ M1 100 1 = M 100 1 ∧ M1 100 2 = M 100 2 ∧ M1 100 3 = M 100 3 ∧ M1 100 49 = M 100 49 ∧ M1 100 50 = M 100 50 ∧ M1 100 51 = M 100 51 ∧ M1 100 52 = M 100 52 ∧ M1 103 0 = M 103 0 ∧ M1 103 1 = M 103 1 ∧ M1 97 12 = M 97 12 ∧ (roQ a b c r))) := by
  refine Con.ofG rfl (Nat.le_of_ble_eq_true rfl) ?_
  show G X 12 RX10 cX10_rounds 5 (some .int) (Qi (fun r M1 => IM M1 ∧ Fr (fun c => 97 ≤ c ∧ c ≤ 116) M M1 ∧ M1 99 0 = M 99 0 ∧ M1 99 1 = M 99 1 ∧ M1 99 2 = M 99 2 ∧ M1 99 3 = M 99 3 ∧ M1 100 0 = M 100 0 ∧ M1 100 1 = M 100 1 ∧ M1 100 2 = M 100 2 ∧ M1 100 3 = M 100 3 ∧ M1 100 49 = M 100 49 ∧ M1 100 50 = M 100 50 ∧ M1 100 51 = M 100 51 ∧ M1 100 52 = M 100 52 ∧ M1 103 0 = M 103 0 ∧ M1 103 1 = M 103 1 ∧ M1 97 12 = M 97 12 ∧ (roQ a b c r))) 0 [(0, vr X 97), (1, vi a), (2, vi b), (3, vi c)] [] M
  have p0 := hi.1.1
  have p1 := hi.1.2.1
  have p2 := hi.1.2.2.1
  have p3 := hi.1.2.2.2.1
  have p12 := hi.2.2.2.1
  refine g_aload_n (pc' := 1) 0 dX10_rounds_0 rfl rfl ?_
  refine g_iconst (pc' := 2) dX10_rounds_1 rfl ?_
  refine g_putI (pc' := 5) dX10_rounds_2 rfl p_X10_77 rfl rfl (by decide) (fun M1 hM1 => ?_)
  have iM1 : IM M1 := IM.wr hi hM1 (by unfold okv; first | decide | omega)
  have fM1 : Fr (fun c => 97 ≤ c ∧ c ≤ 116) M M1 := Fr.wr Fr.rf hM1 (by first | decide | omega | (dsimp only; omega))
  have q99_0_M1 : (M1 99 0 = M 99 0) := (show M1 99 0 = M 99 0 by rw [hM1]; exact mu_ne _ _ (by first | decide | omega))
  have q99_1_M1 : (M1 99 1 = M 99 1) := (show M1 99 1 = M 99 1 by rw [hM1]; exact mu_ne _ _ (by first | decide | omega))
  have q99_2_M1 : (M1 99 2 = M 99 2) := (show M1 99 2 = M 99 2 by rw [hM1]; exact mu_ne _ _ (by first | decide | omega))
  have q99_3_M1 : (M1 99 3 = M 99 3) := (show M1 99 3 = M 99 3 by rw [hM1]; exact mu_ne _ _ (by first | decide | omega))
  have q100_0_M1 : id (M1 100 0 = M 100 0) := (show M1 100 0 = M 100 0 by rw [hM1]; exact mu_ne _ _ (by first | decide | omega))
  have q100_1_M1 : id (M1 100 1 = M 100 1) := (show M1 100 1 = M 100 1 by rw [hM1]; exact mu_ne _ _ (by first | decide | omega))
  have q100_2_M1 : id (M1 100 2 = M 100 2) := (show M1 100 2 = M 100 2 by rw [hM1]; exact mu_ne _ _ (by first | decide | omega))
  have q100_3_M1 : id (M1 100 3 = M 100 3) := (show M1 100 3 = M 100 3 by rw [hM1]; exact mu_ne _ _ (by first | decide | omega))
  have q100_49_M1 : id (M1 100 49 = M 100 49) := (show M1 100 49 = M 100 49 by rw [hM1]; exact mu_ne _ _ (by first | decide | omega))
  have q100_50_M1 : id (M1 100 50 = M 100 50) := (show M1 100 50 = M 100 50 by rw [hM1]; exact mu_ne _ _ (by first | decide | omega))
  have q100_51_M1 : id (M1 100 51 = M 100 51) := (show M1 100 51 = M 100 51 by rw [hM1]; exact mu_ne _ _ (by first | decide | omega))
  have q100_52_M1 : id (M1 100 52 = M 100 52) := (show M1 100 52 = M 100 52 by rw [hM1]; exact mu_ne _ _ (by first | decide | omega))
  have q103_0_M1 : id (M1 103 0 = M 103 0) := (show M1 103 0 = M 103 0 by rw [hM1]; exact mu_ne _ _ (by first | decide | omega))
  have q103_1_M1 : id (M1 103 1 = M 103 1) := (show M1 103 1 = M 103 1 by rw [hM1]; exact mu_ne _ _ (by first | decide | omega))
  have q97_12_M1 : (M1 97 12 = M 97 12) := (show M1 97 12 = M 97 12 by rw [hM1]; exact mu_ne _ _ (by first | decide | omega))
  have xM1_97_0 : M1 97 0 = 0 := by rw [hM1]; exact mu_at _ _ _ _
  refine g_iload_n (pc' := 6) 1 dX10_rounds_5 rfl rfl ?_
  refine g_iload_n (pc' := 7) 2 dX10_rounds_6 rfl rfl ?_
  refine g_callSip (pc' := 10) (As := [vi a, vi b]) (S := []) dX10_rounds_7 rfl m_X10_331 w_X10_areBoth (c_X10_areBoth X M1 a ha b hb) rfl (by decide) (by decide) rfl (Nat.le_of_ble_eq_true rfl) (fun z3 q2 => ?_)
  refine g_if_eq (pc' := 13) (tgt := 25) ⟨by omega, by omega⟩ dX10_rounds_10 rfl rfl (fun c4 => ?_) (fun c4 => ?_)
  · replace q2 := q2.resolve_left (fun h => absurd (c4.symm.trans h.1) (by decide))
    refine g_iconst (pc' := 26) dX10_rounds_25 rfl ?_
    refine g_ireturn dX10_rounds_26 ?_
    exact ⟨iM1, fM1, q99_0_M1, q99_1_M1, q99_2_M1, q99_3_M1, q100_0_M1, q100_1_M1, q100_2_M1, q100_3_M1, q100_49_M1, q100_50_M1, q100_51_M1, q100_52_M1, q103_0_M1, q103_1_M1, q97_12_M1, ro_n (by omega)⟩
  · replace q2 := q2.resolve_right (fun h => c4 h.1)
    refine g_iload_n (pc' := 14) 3 dX10_rounds_13 rfl rfl ?_
    refine g_i2l (pc' := 15) hc dX10_rounds_14 rfl ?_
    refine g_lconst (pc' := 16) (v := 0) dX10_rounds_15 rfl (by decide) ?_
    refine g_ldc2 (pc' := 19) (v := 100) dX10_rounds_16 rfl k_X10_110 ?_
    refine g_callSip (pc' := 22) (As := [vl c, vl 0, vl 100]) (S := []) dX10_rounds_19 rfl m_X10_83 w_X10_in (c_X10_in X M1 c ⟨by omega, by omega⟩ 0 (by decide) 100 (by decide)) rfl (by decide) (by decide) rfl (Nat.le_of_ble_eq_true rfl) (fun z6 q5 => ?_)
    refine g_if_ne (pc' := 25) (tgt := 27) ⟨by omega, by omega⟩ dX10_rounds_22 rfl rfl (fun c7 => ?_) (fun c7 => ?_)
    · replace q5 := q5.resolve_right (fun h => c7 h.1)
      refine g_iconst (pc' := 28) dX10_rounds_27 rfl ?_
      refine g_istore (pc' := 30) (L' := [(4, vi 0), (0, vr X 97), (1, vi a), (2, vi b), (3, vi c)]) dX10_rounds_28 rfl (by decide) rfl ?_
      refine g_sub [0, 1, 2, 3, 4] rfl ?_
      exact l_X10_rounds_x_30 X M hi a ha b hb c hc _ 0 M1 iM1 fM1 q99_0_M1 q99_1_M1 q99_2_M1 q99_3_M1 q100_0_M1 q100_1_M1 q100_2_M1 q100_3_M1 q100_49_M1 q100_50_M1 q100_51_M1 q100_52_M1 q103_0_M1 q103_1_M1 q97_12_M1 (by omega) (by omega) (by omega) (fun k z0 z1 => absurd z1 (by omega)) rfl
    · replace q5 := q5.resolve_left (fun h => absurd (c7.symm.trans h.1) (by decide))
      refine g_iconst (pc' := 26) dX10_rounds_25 rfl ?_
      refine g_ireturn dX10_rounds_26 ?_
      exact ⟨iM1, fM1, q99_0_M1, q99_1_M1, q99_2_M1, q99_3_M1, q100_0_M1, q100_1_M1, q100_2_M1, q100_3_M1, q100_49_M1, q100_50_M1, q100_51_M1, q100_52_M1, q103_0_M1, q103_1_M1, q97_12_M1, ro_n (by omega)⟩
set_option maxHeartbeats 4000000 in
set_option maxRecDepth 100000 in
theorem l_X9_guests_x_23 (X : Cx) (M : Mm) (hi : IC M) (a : Int) (ha : inI a) (b : Int) (hb : inI b) (c : Int) (hc : inI c) : ∀ (kk : Nat) (i : Int) (h0 : 0 ≤ i) (h1 : i ≤ 7) (k1 : 1 ≤ a ∧ a ≤ 60 ∧ 0 ≤ b ∧ b ≤ a ∧ 0 ≤ c ∧ c ≤ 100) (hP : ∀ k : Int, 0 ≤ k → k < i → ¬ guP a b c k), (7 - i).toNat = kk → G X 10 RX9 cX9_guests 5 (some .int) (Qi (fun r M1 => M1 = M ∧ (guQ a b c r))) 23 [(4, vi i), (0, vr X 0), (1, vi a), (2, vi b), (3, vi c)] [] M := by
  intro kk
  induction kk using Nat.strongRecOn with
  | ind kk ih =>
    intro i h0 h1 k1 hP hmes
    refine g_iload (pc' := 25) 0 dX9_guests_23 rfl rfl ?_
    refine g_bipush (pc' := 27) (v := 6) dX9_guests_25 rfl (by decide) ?_
    refine g_ic_gt (pc' := 30) (tgt := 66) ⟨by omega, by omega⟩ (by decide) dX9_guests_27 rfl rfl (fun c1 => ?_) (fun c1 => ?_)
    · refine g_iconst (pc' := 67) dX9_guests_66 rfl ?_
      refine g_ireturn dX9_guests_67 ?_
      exact ⟨rfl, gu_e k1 (by omega) hP⟩
    · refine g_ldc2 (pc' := 33) (v := 100) dX9_guests_30 rfl k_X9_198 ?_
      refine g_iload_n (pc' := 34) 2 dX9_guests_33 rfl rfl ?_
      refine g_iload_n (pc' := 35) 3 dX9_guests_34 rfl rfl ?_
      refine g_isub (pc' := 36) dX9_guests_35 rfl ?_
      refine g_i2l (pc' := 37) ⟨by omega, by omega⟩ dX9_guests_36 rfl ?_
      refine g_iload (pc' := 39) 0 dX9_guests_37 rfl rfl ?_
      refine g_callSlp (pc' := 42) (As := [vl (a - b), vi i]) (S := [vl 100]) dX9_guests_39 rfl m_X9_200 w_X9_power (c_X9_power_x X M (a - b) ⟨by omega, by omega⟩ i ⟨by omega, by omega⟩ (by omega) (by omega)) rfl (by decide) (by decide) rfl (Nat.le_of_ble_eq_true rfl) (fun z3 q2 => ?_)
      have hz3 := powR (a := a - b) (k := (i).toNat) (by omega) (by omega) (by omega)
      rw [← q2] at hz3
      refine g_lmul (pc' := 43) dX9_guests_42 rfl ?_
      refine g_nrmL (fun n4 rn4 en4 => ?_)
      refine g_iload_n (pc' := 44) 4 dX9_guests_43 rfl rfl ?_
      refine g_i2l (pc' := 45) hc dX9_guests_44 rfl ?_
      refine g_iload_n (pc' := 46) 2 dX9_guests_45 rfl rfl ?_
      refine g_i2l (pc' := 47) ha dX9_guests_46 rfl ?_
      refine g_iload (pc' := 49) 0 dX9_guests_47 rfl rfl ?_
      refine g_callSlp (pc' := 52) (As := [vl a, vi i]) (S := [vl c, vl n4]) dX9_guests_49 rfl m_X9_200 w_X9_power (c_X9_power_x X M a ⟨by omega, by omega⟩ i ⟨by omega, by omega⟩ (by omega) (by omega)) rfl (by decide) (by decide) rfl (Nat.le_of_ble_eq_true rfl) (fun z6 q5 => ?_)
      have hz6 := powR (a := a) (k := (i).toNat) (by omega) (by omega) (by omega)
      rw [← q5] at hz6
      refine g_lmul (pc' := 53) dX9_guests_52 rfl ?_
      refine g_nrmL (fun n7 rn7 en7 => ?_)
      refine g_lc_ge (pc' := 57) (tgt := 60) rn4 rn7 dX9_guests_53 dX9_guests_54 rfl rfl (fun c8 => ?_) (fun c8 => ?_)
      · have hmis := gu_m hP q2 q5 en4 en7 (by omega)
        refine g_iinc (pc' := 63) (L' := [(4, vi (i + 1)), (0, vr X 0), (1, vi a), (2, vi b), (3, vi c)]) 0 dX9_guests_60 rfl rfl (by decide) rfl ?_
        refine g_goto (tgt := 23) dX9_guests_63 rfl ?_
        refine g_sub [0, 1, 2, 3, 4] rfl ?_
        exact ih _ (by omega) (i + 1) (by omega) (by omega) (by omega) hmis rfl
      · have hhit := gu_y k1 (by omega) hP q2 q5 en4 en7 (by omega)
        refine g_iload (pc' := 59) 0 dX9_guests_57 rfl rfl ?_
        refine g_ireturn dX9_guests_59 ?_
        exact ⟨rfl, hhit⟩
set_option maxHeartbeats 4000000 in
set_option maxRecDepth 100000 in
theorem c_X9_guests_x (X : Cx) (M : Mm) (hi : IC M) (a : Int) (ha : inI a) (b : Int) (hb : inI b) (c : Int) (hc : inI c) : Con X 10 yX9_guests cX9_guests 5 (some .int) [vr X 0, vi a, vi b, vi c] M (Qi (fun r M1 => M1 = M ∧ (guQ a b c r))) := by
  refine Con.ofG rfl (Nat.le_of_ble_eq_true rfl) ?_
  show G X 10 RX9 cX9_guests 5 (some .int) (Qi (fun r M1 => M1 = M ∧ (guQ a b c r))) 0 [(0, vr X 0), (1, vi a), (2, vi b), (3, vi c)] [] M
  refine g_iload_n (pc' := 1) 1 dX9_guests_0 rfl rfl ?_
  refine g_iload_n (pc' := 2) 2 dX9_guests_1 rfl rfl ?_
  refine g_callSip (pc' := 5) (As := [vi a, vi b]) (S := []) dX9_guests_2 rfl m_X9_237 w_X9_isCask (c_X9_isCask X M a ha b hb) rfl (by decide) (by decide) rfl (Nat.le_of_ble_eq_true rfl) (fun z2 q1 => ?_)
  refine g_if_eq (pc' := 8) (tgt := 18) ⟨by omega, by omega⟩ dX9_guests_5 rfl rfl (fun c3 => ?_) (fun c3 => ?_)
  · replace q1 := q1.resolve_left (fun h => absurd (c3.symm.trans h.1) (by decide))
    refine g_iconst (pc' := 19) dX9_guests_18 rfl ?_
    refine g_ireturn dX9_guests_19 ?_
    exact ⟨rfl, gu_n (by omega)⟩
  · replace q1 := q1.resolve_right (fun h => c3 h.1)
    refine g_iload_n (pc' := 9) 3 dX9_guests_8 rfl rfl ?_
    refine g_iconst (pc' := 10) dX9_guests_9 rfl ?_
    refine g_bipush (pc' := 12) (v := 100) dX9_guests_10 rfl (by decide) ?_
    refine g_callSip (pc' := 15) (As := [vi c, vi 0, vi 100]) (S := []) dX9_guests_12 rfl m_X9_191 w_X9_isWithin (c_X9_isWithin X M c hc 0 (by decide) 100 (by decide)) rfl (by decide) (by decide) rfl (Nat.le_of_ble_eq_true rfl) (fun z5 q4 => ?_)
    refine g_if_ne (pc' := 18) (tgt := 20) ⟨by omega, by omega⟩ dX9_guests_15 rfl rfl (fun c6 => ?_) (fun c6 => ?_)
    · replace q4 := q4.resolve_right (fun h => c6 h.1)
      refine g_iconst (pc' := 21) dX9_guests_20 rfl ?_
      refine g_istore (pc' := 23) (L' := [(4, vi 0), (0, vr X 0), (1, vi a), (2, vi b), (3, vi c)]) dX9_guests_21 rfl (by decide) rfl ?_
      refine g_sub [0, 1, 2, 3, 4] rfl ?_
      exact l_X9_guests_x_23 X M hi a ha b hb c hc _ 0 (by omega) (by omega) (by omega) (fun k z0 z1 => absurd z1 (by omega)) rfl
    · replace q4 := q4.resolve_left (fun h => absurd (c6.symm.trans h.1) (by decide))
      refine g_iconst (pc' := 19) dX9_guests_18 rfl ?_
      refine g_ireturn dX9_guests_19 ?_
      exact ⟨rfl, gu_n (by omega)⟩
set_option maxHeartbeats 4000000 in
set_option maxRecDepth 100000 in
theorem l_X10_guests_x_30 (X : Cx) (M : Mm) (hi : IM M) (a : Int) (ha : inI a) (b : Int) (hb : inI b) (c : Int) (hc : inI c) : ∀ (kk : Nat) (i : Int) (M1 : Mm) (ic1 : IM M1) (fr1 : Fr (fun c => 97 ≤ c ∧ c ≤ 116) M M1) (q99_0 : (M1 99 0 = M 99 0)) (q99_1 : (M1 99 1 = M 99 1)) (q99_2 : (M1 99 2 = M 99 2)) (q99_3 : (M1 99 3 = M 99 3)) (q100_0 : id (M1 100 0 = M 100 0)) (q100_1 : id (M1 100 1 = M 100 1)) (q100_2 : id (M1 100 2 = M 100 2)) (q100_3 : id (M1 100 3 = M 100 3)) (q100_49 : id (M1 100 49 = M 100 49)) (q100_50 : id (M1 100 50 = M 100 50)) (q100_51 : id (M1 100 51 = M 100 51)) (q100_52 : id (M1 100 52 = M 100 52)) (q103_0 : id (M1 103 0 = M 103 0)) (q103_1 : id (M1 103 1 = M 103 1)) (q97_12 : (M1 97 12 = M 97 12)) (h0 : 0 ≤ i) (h1 : i ≤ 7) (k1 : 1 ≤ a ∧ a ≤ 60 ∧ 0 ≤ b ∧ b ≤ a ∧ 0 ≤ c ∧ c ≤ 100) (hP : ∀ k : Int, 0 ≤ k → k < i → ¬ guP a b c k), (7 - i).toNat = kk → G X 12 RX10 cX10_guests 5 (some .int) (Qi (fun r M1 => IM M1 ∧ Fr (fun c => 97 ≤ c ∧ c ≤ 116) M M1 ∧ M1 99 0 = M 99 0 ∧ M1 99 1 = M 99 1 ∧ M1 99 2 = M 99 2 ∧ M1 99 3 = M 99 3 ∧ M1 100 0 = M 100 0 ∧ M1 100 1 = M 100 1 ∧ M1 100 2 = M 100 2 ∧ M1 100 3 = M 100 3 ∧ M1 100 49 = M 100 49 ∧ M1 100 50 = M 100 50 ∧ M1 100 51 = M 100 51 ∧ M1 100 52 = M 100 52 ∧ M1 103 0 = M 103 0 ∧ M1 103 1 = M 103 1 ∧ M1 97 12 = M 97 12 ∧ (guQ a b c r))) 30 [(4, vi i), (0, vr X 97), (1, vi a), (2, vi b), (3, vi c)] [] M1 := by
  intro kk
  induction kk using Nat.strongRecOn with
  | ind kk ih =>
    intro i M1 ic1 fr1 q99_0 q99_1 q99_2 q99_3 q100_0 q100_1 q100_2 q100_3 q100_49 q100_50 q100_51 q100_52 q103_0 q103_1 q97_12 h0 h1 k1 hP hmes
    have p0 := hi.1.1
    have p1 := hi.1.2.1
    have p2 := hi.1.2.2.1
    have p3 := hi.1.2.2.2.1
    have p12 := hi.2.2.2.1
    refine g_iload (pc' := 32) 0 dX10_guests_30 rfl rfl ?_
    refine g_bipush (pc' := 34) (v := 7) dX10_guests_32 rfl (by decide) ?_
    refine g_ic_ge (pc' := 37) (tgt := 73) ⟨by omega, by omega⟩ (by decide) dX10_guests_34 rfl rfl (fun c1 => ?_) (fun c1 => ?_)
    · refine g_iconst (pc' := 74) dX10_guests_73 rfl ?_
      refine g_ireturn dX10_guests_74 ?_
      exact ⟨ic1, fr1, q99_0, q99_1, q99_2, q99_3, q100_0, q100_1, q100_2, q100_3, q100_49, q100_50, q100_51, q100_52, q103_0, q103_1, q97_12, gu_e k1 (by omega) hP⟩
    · refine g_ldc2 (pc' := 40) (v := 100) dX10_guests_37 rfl k_X10_110 ?_
      refine g_iload_n (pc' := 41) 2 dX10_guests_40 rfl rfl ?_
      refine g_iload_n (pc' := 42) 3 dX10_guests_41 rfl rfl ?_
      refine g_isub (pc' := 43) dX10_guests_42 rfl ?_
      refine g_i2l (pc' := 44) ⟨by omega, by omega⟩ dX10_guests_43 rfl ?_
      refine g_iload (pc' := 46) 0 dX10_guests_44 rfl rfl ?_
      refine g_callSlp (pc' := 49) (As := [vl (a - b), vi i]) (S := [vl 100]) dX10_guests_46 rfl m_X10_337 w_X10_power (c_X10_power X M1 (a - b) ⟨by omega, by omega⟩ i ⟨by omega, by omega⟩ (by omega) (by omega)) rfl (by decide) (by decide) rfl (Nat.le_of_ble_eq_true rfl) (fun z3 q2 => ?_)
      have hz3 := powR (a := a - b) (k := (i).toNat) (by omega) (by omega) (by omega)
      rw [← q2] at hz3
      refine g_lmul (pc' := 50) dX10_guests_49 rfl ?_
      refine g_nrmL (fun n4 rn4 en4 => ?_)
      refine g_iload_n (pc' := 51) 4 dX10_guests_50 rfl rfl ?_
      refine g_i2l (pc' := 52) hc dX10_guests_51 rfl ?_
      refine g_iload_n (pc' := 53) 2 dX10_guests_52 rfl rfl ?_
      refine g_i2l (pc' := 54) ha dX10_guests_53 rfl ?_
      refine g_iload (pc' := 56) 0 dX10_guests_54 rfl rfl ?_
      refine g_callSlp (pc' := 59) (As := [vl a, vi i]) (S := [vl c, vl n4]) dX10_guests_56 rfl m_X10_337 w_X10_power (c_X10_power X M1 a ⟨by omega, by omega⟩ i ⟨by omega, by omega⟩ (by omega) (by omega)) rfl (by decide) (by decide) rfl (Nat.le_of_ble_eq_true rfl) (fun z6 q5 => ?_)
      have hz6 := powR (a := a) (k := (i).toNat) (by omega) (by omega) (by omega)
      rw [← q5] at hz6
      refine g_lmul (pc' := 60) dX10_guests_59 rfl ?_
      refine g_nrmL (fun n7 rn7 en7 => ?_)
      refine g_lc_ge (pc' := 64) (tgt := 67) rn4 rn7 dX10_guests_60 dX10_guests_61 rfl rfl (fun c8 => ?_) (fun c8 => ?_)
      · have hmis := gu_m hP q2 q5 en4 en7 (by omega)
        refine g_iinc (pc' := 70) (L' := [(4, vi (i + 1)), (0, vr X 97), (1, vi a), (2, vi b), (3, vi c)]) 0 dX10_guests_67 rfl rfl (by decide) rfl ?_
        refine g_goto (tgt := 30) dX10_guests_70 rfl ?_
        refine g_sub [0, 1, 2, 3, 4] rfl ?_
        exact ih _ (by omega) (i + 1) M1 ic1 fr1 q99_0 q99_1 q99_2 q99_3 q100_0 q100_1 q100_2 q100_3 q100_49 q100_50 q100_51 q100_52 q103_0 q103_1 q97_12 (by omega) (by omega) (by omega) hmis rfl
      · have hhit := gu_y k1 (by omega) hP q2 q5 en4 en7 (by omega)
        refine g_iload (pc' := 66) 0 dX10_guests_64 rfl rfl ?_
        refine g_ireturn dX10_guests_66 ?_
        exact ⟨ic1, fr1, q99_0, q99_1, q99_2, q99_3, q100_0, q100_1, q100_2, q100_3, q100_49, q100_50, q100_51, q100_52, q103_0, q103_1, q97_12, hhit⟩
set_option maxHeartbeats 4000000 in
set_option maxRecDepth 100000 in
theorem c_X10_guests_x (X : Cx) (M : Mm) (hi : IM M) (a : Int) (ha : inI a) (b : Int) (hb : inI b) (c : Int) (hc : inI c) : Con X 12 yX10_guests cX10_guests 5 (some .int) [vr X 97, vi a, vi b, vi c] M (Qi (fun r M1 => IM M1 ∧ Fr (fun c => 97 ≤ c ∧ c ≤ 116) M M1 ∧ M1 99 0 = M 99 0 ∧ M1 99 1 = M 99 1 ∧ M1 99 2 = M 99 2 ∧ M1 99 3 = M 99 3 ∧ M1 100 0 = M 100 0 ∧ M1 100 1 = M 100 1 ∧ M1 100 2 = M 100 2 ∧ M1 100 3 = M 100 3 ∧ M1 100 49 = M 100 49 ∧ M1 100 50 = M 100 50 ∧ M1 100 51 = M 100 51 ∧ M1 100 52 = M 100 52 ∧ M1 103 0 = M 103 0 ∧ M1 103 1 = M 103 1 ∧ M1 97 12 = M 97 12 ∧ (guQ a b c r))) := by
  refine Con.ofG rfl (Nat.le_of_ble_eq_true rfl) ?_
  show G X 12 RX10 cX10_guests 5 (some .int) (Qi (fun r M1 => IM M1 ∧ Fr (fun c => 97 ≤ c ∧ c ≤ 116) M M1 ∧ M1 99 0 = M 99 0 ∧ M1 99 1 = M 99 1 ∧ M1 99 2 = M 99 2 ∧ M1 99 3 = M 99 3 ∧ M1 100 0 = M 100 0 ∧ M1 100 1 = M 100 1 ∧ M1 100 2 = M 100 2 ∧ M1 100 3 = M 100 3 ∧ M1 100 49 = M 100 49 ∧ M1 100 50 = M 100 50 ∧ M1 100 51 = M 100 51 ∧ M1 100 52 = M 100 52 ∧ M1 103 0 = M 103 0 ∧ M1 103 1 = M 103 1 ∧ M1 97 12 = M 97 12 ∧ (guQ a b c r))) 0 [(0, vr X 97), (1, vi a), (2, vi b), (3, vi c)] [] M
  have p0 := hi.1.1
  have p1 := hi.1.2.1
  have p2 := hi.1.2.2.1
  have p3 := hi.1.2.2.2.1
  have p12 := hi.2.2.2.1
  refine g_aload_n (pc' := 1) 0 dX10_guests_0 rfl rfl ?_
  refine g_iconst (pc' := 2) dX10_guests_1 rfl ?_
  refine g_putI (pc' := 5) dX10_guests_2 rfl p_X10_77 rfl rfl (by decide) (fun M1 hM1 => ?_)
  have iM1 : IM M1 := IM.wr hi hM1 (by unfold okv; first | decide | omega)
  have fM1 : Fr (fun c => 97 ≤ c ∧ c ≤ 116) M M1 := Fr.wr Fr.rf hM1 (by first | decide | omega | (dsimp only; omega))
  have q99_0_M1 : (M1 99 0 = M 99 0) := (show M1 99 0 = M 99 0 by rw [hM1]; exact mu_ne _ _ (by first | decide | omega))
  have q99_1_M1 : (M1 99 1 = M 99 1) := (show M1 99 1 = M 99 1 by rw [hM1]; exact mu_ne _ _ (by first | decide | omega))
  have q99_2_M1 : (M1 99 2 = M 99 2) := (show M1 99 2 = M 99 2 by rw [hM1]; exact mu_ne _ _ (by first | decide | omega))
  have q99_3_M1 : (M1 99 3 = M 99 3) := (show M1 99 3 = M 99 3 by rw [hM1]; exact mu_ne _ _ (by first | decide | omega))
  have q100_0_M1 : id (M1 100 0 = M 100 0) := (show M1 100 0 = M 100 0 by rw [hM1]; exact mu_ne _ _ (by first | decide | omega))
  have q100_1_M1 : id (M1 100 1 = M 100 1) := (show M1 100 1 = M 100 1 by rw [hM1]; exact mu_ne _ _ (by first | decide | omega))
  have q100_2_M1 : id (M1 100 2 = M 100 2) := (show M1 100 2 = M 100 2 by rw [hM1]; exact mu_ne _ _ (by first | decide | omega))
  have q100_3_M1 : id (M1 100 3 = M 100 3) := (show M1 100 3 = M 100 3 by rw [hM1]; exact mu_ne _ _ (by first | decide | omega))
  have q100_49_M1 : id (M1 100 49 = M 100 49) := (show M1 100 49 = M 100 49 by rw [hM1]; exact mu_ne _ _ (by first | decide | omega))
  have q100_50_M1 : id (M1 100 50 = M 100 50) := (show M1 100 50 = M 100 50 by rw [hM1]; exact mu_ne _ _ (by first | decide | omega))
  have q100_51_M1 : id (M1 100 51 = M 100 51) := (show M1 100 51 = M 100 51 by rw [hM1]; exact mu_ne _ _ (by first | decide | omega))
  have q100_52_M1 : id (M1 100 52 = M 100 52) := (show M1 100 52 = M 100 52 by rw [hM1]; exact mu_ne _ _ (by first | decide | omega))
  have q103_0_M1 : id (M1 103 0 = M 103 0) := (show M1 103 0 = M 103 0 by rw [hM1]; exact mu_ne _ _ (by first | decide | omega))
  have q103_1_M1 : id (M1 103 1 = M 103 1) := (show M1 103 1 = M 103 1 by rw [hM1]; exact mu_ne _ _ (by first | decide | omega))
  have q97_12_M1 : (M1 97 12 = M 97 12) := (show M1 97 12 = M 97 12 by rw [hM1]; exact mu_ne _ _ (by first | decide | omega))
  have xM1_97_0 : M1 97 0 = 0 := by rw [hM1]; exact mu_at _ _ _ _
  refine g_iload_n (pc' := 6) 1 dX10_guests_5 rfl rfl ?_
  refine g_iload_n (pc' := 7) 2 dX10_guests_6 rfl rfl ?_
  refine g_callSip (pc' := 10) (As := [vi a, vi b]) (S := []) dX10_guests_7 rfl m_X10_377 w_X10_isCask (c_X10_isCask X M1 a ha b hb) rfl (by decide) (by decide) rfl (Nat.le_of_ble_eq_true rfl) (fun z3 q2 => ?_)
  refine g_if_eq (pc' := 13) (tgt := 25) ⟨by omega, by omega⟩ dX10_guests_10 rfl rfl (fun c4 => ?_) (fun c4 => ?_)
  · replace q2 := q2.resolve_left (fun h => absurd (c4.symm.trans h.1) (by decide))
    refine g_iconst (pc' := 26) dX10_guests_25 rfl ?_
    refine g_ireturn dX10_guests_26 ?_
    exact ⟨iM1, fM1, q99_0_M1, q99_1_M1, q99_2_M1, q99_3_M1, q100_0_M1, q100_1_M1, q100_2_M1, q100_3_M1, q100_49_M1, q100_50_M1, q100_51_M1, q100_52_M1, q103_0_M1, q103_1_M1, q97_12_M1, gu_n (by omega)⟩
  · replace q2 := q2.resolve_right (fun h => c4 h.1)
    refine g_iload_n (pc' := 14) 3 dX10_guests_13 rfl rfl ?_
    refine g_i2l (pc' := 15) hc dX10_guests_14 rfl ?_
    refine g_lconst (pc' := 16) (v := 0) dX10_guests_15 rfl (by decide) ?_
    refine g_ldc2 (pc' := 19) (v := 100) dX10_guests_16 rfl k_X10_110 ?_
    refine g_callSip (pc' := 22) (As := [vl c, vl 0, vl 100]) (S := []) dX10_guests_19 rfl m_X10_83 w_X10_in (c_X10_in X M1 c ⟨by omega, by omega⟩ 0 (by decide) 100 (by decide)) rfl (by decide) (by decide) rfl (Nat.le_of_ble_eq_true rfl) (fun z6 q5 => ?_)
    refine g_if_ne (pc' := 25) (tgt := 27) ⟨by omega, by omega⟩ dX10_guests_22 rfl rfl (fun c7 => ?_) (fun c7 => ?_)
    · replace q5 := q5.resolve_right (fun h => c7 h.1)
      refine g_iconst (pc' := 28) dX10_guests_27 rfl ?_
      refine g_istore (pc' := 30) (L' := [(4, vi 0), (0, vr X 97), (1, vi a), (2, vi b), (3, vi c)]) dX10_guests_28 rfl (by decide) rfl ?_
      refine g_sub [0, 1, 2, 3, 4] rfl ?_
      exact l_X10_guests_x_30 X M hi a ha b hb c hc _ 0 M1 iM1 fM1 q99_0_M1 q99_1_M1 q99_2_M1 q99_3_M1 q100_0_M1 q100_1_M1 q100_2_M1 q100_3_M1 q100_49_M1 q100_50_M1 q100_51_M1 q100_52_M1 q103_0_M1 q103_1_M1 q97_12_M1 (by omega) (by omega) (by omega) (fun k z0 z1 => absurd z1 (by omega)) rfl
    · replace q5 := q5.resolve_left (fun h => absurd (c7.symm.trans h.1) (by decide))
      refine g_iconst (pc' := 26) dX10_guests_25 rfl ?_
      refine g_ireturn dX10_guests_26 ?_
      exact ⟨iM1, fM1, q99_0_M1, q99_1_M1, q99_2_M1, q99_3_M1, q100_0_M1, q100_1_M1, q100_2_M1, q100_3_M1, q100_49_M1, q100_50_M1, q100_51_M1, q100_52_M1, q103_0_M1, q103_1_M1, q97_12_M1, gu_n (by omega)⟩
set_option maxHeartbeats 4000000 in
set_option maxRecDepth 100000 in
theorem l_X9_choices_x_12 (X : Cx) (M : Mm) (a : Int) (ha : inI a) (b : Int) (hb : inI b) (pa : 0 ≤ a ∧ a ≤ 40) (pb : 0 ≤ b ∧ b ≤ 40) : ∀ (kk : Nat) (res : Int) (i : Int) (hL : inL res) (h0 : 1 ≤ i) (h1 : i ≤ b + 1) (h2 : b ≤ a) (hr : res = chL a b (i - 1).toNat), (41 - i).toNat = kk → G X 0 RX9 cX9_choices 5 (some .long) (Ql (fun r M1 => M1 = M ∧ (r = chF a b))) 12 [(2, vl res), (4, vi i), (0, vi a), (1, vi b)] [] M := by
  intro kk
  induction kk using Nat.strongRecOn with
  | ind kk ih =>
    intro res i hL h0 h1 h2 hr hmes
    refine g_iload (pc' := 14) 1 dX9_choices_12 rfl rfl ?_
    refine g_iload_n (pc' := 15) 3 dX9_choices_14 rfl rfl ?_
    refine g_ic_gt (pc' := 18) (tgt := 38) ⟨by omega, by omega⟩ hb dX9_choices_15 rfl rfl (fun c1 => ?_) (fun c1 => ?_)
    · refine g_lload_n (pc' := 39) 0 dX9_choices_38 rfl rfl ?_
      refine g_lreturn dX9_choices_39 ?_
      exact ⟨rfl, chF_l (by omega) (by omega) hr⟩
    · refine g_lload_n (pc' := 19) 0 dX9_choices_18 rfl rfl ?_
      refine g_iload_n (pc' := 20) 2 dX9_choices_19 rfl rfl ?_
      refine g_iload_n (pc' := 21) 3 dX9_choices_20 rfl rfl ?_
      refine g_isub (pc' := 22) dX9_choices_21 rfl ?_
      refine g_iload (pc' := 24) 1 dX9_choices_22 rfl rfl ?_
      refine g_iadd (pc' := 25) dX9_choices_24 rfl ?_
      refine g_i2l (pc' := 26) ⟨by omega, by omega⟩ dX9_choices_25 rfl ?_
      refine g_lmul (pc' := 27) dX9_choices_26 rfl ?_
      refine g_nrmL (fun n2 rn2 en2 => ?_)
      refine g_iload (pc' := 29) 1 dX9_choices_27 rfl rfl ?_
      refine g_i2l (pc' := 30) ⟨by omega, by omega⟩ dX9_choices_29 rfl ?_
      refine g_ldiv (pc' := 31) rn2 ⟨by omega, by omega⟩ (by omega) dX9_choices_30 rfl ?_
      refine g_nrmL (fun n3 rn3 en3 => ?_)
      have hch := ch_s (n := a) (k := b) h0 hr en2 en3
      refine g_lstore_n (pc' := 32) (i := 2) (L' := [(2, vl n3), (4, vi i), (0, vi a), (1, vi b)]) dX9_choices_31 rfl rfl (by decide) rfl ?_
      refine g_iinc (pc' := 35) (L' := [(4, vi (i + 1)), (2, vl n3), (0, vi a), (1, vi b)]) 1 dX9_choices_32 rfl rfl (by decide) rfl ?_
      refine g_goto (tgt := 12) dX9_choices_35 rfl ?_
      refine g_sub [1, 0, 2, 3] rfl ?_
      exact ih _ (by omega) n3 (i + 1) (by first | assumption | decide) (by omega) (by omega) (by omega) hch rfl
set_option maxHeartbeats 4000000 in
set_option maxRecDepth 100000 in
theorem c_X9_choices_x (X : Cx) (M : Mm) (a : Int) (ha : inI a) (b : Int) (hb : inI b) (pa : 0 ≤ a ∧ a ≤ 40) (pb : 0 ≤ b ∧ b ≤ 40) : Con X 0 yX9_choices cX9_choices 5 (some .long) [vi a, vi b] M (Ql (fun r M1 => M1 = M ∧ (r = chF a b))) := by
  refine Con.ofG rfl (Nat.le_of_ble_eq_true rfl) ?_
  show G X 0 RX9 cX9_choices 5 (some .long) (Ql (fun r M1 => M1 = M ∧ (r = chF a b))) 0 [(0, vi a), (1, vi b)] [] M
  refine g_iload_n (pc' := 1) 1 dX9_choices_0 rfl rfl ?_
  refine g_iload_n (pc' := 2) 0 dX9_choices_1 rfl rfl ?_
  refine g_ic_le (pc' := 5) (tgt := 7) hb ha dX9_choices_2 rfl rfl (fun c1 => ?_) (fun c1 => ?_)
  · refine g_lconst (pc' := 8) (v := 1) dX9_choices_7 rfl (by decide) ?_
    refine g_lstore_n (pc' := 9) (i := 2) (L' := [(2, vl 1), (0, vi a), (1, vi b)]) dX9_choices_8 rfl rfl (by decide) rfl ?_
    refine g_iconst (pc' := 10) dX9_choices_9 rfl ?_
    refine g_istore (pc' := 12) (L' := [(4, vi 1), (2, vl 1), (0, vi a), (1, vi b)]) dX9_choices_10 rfl (by decide) rfl ?_
    refine g_sub [1, 0, 2, 3] rfl ?_
    exact l_X9_choices_x_12 X M a ha b hb pa pb _ 1 1 (by first | assumption | decide) (by omega) (by omega) (by omega) rfl rfl
  · refine g_lconst (pc' := 6) (v := 0) dX9_choices_5 rfl (by decide) ?_
    refine g_lreturn dX9_choices_6 ?_
    exact ⟨rfl, by first | rw [chF_0 (by omega)] | omega⟩
set_option maxHeartbeats 4000000 in
set_option maxRecDepth 100000 in
theorem l_X10_choose_x_16 (X : Cx) (M : Mm) (a : Int) (ha : inI a) (b : Int) (hb : inI b) (pa : 0 ≤ a ∧ a ≤ 40) (pb : 0 ≤ b ∧ b ≤ 40) : ∀ (kk : Nat) (res : Int) (i : Int) (hL : inL res) (h0 : 1 ≤ i) (h1 : i ≤ b + 1) (h2 : b ≤ a) (hr : res = chL a b (i - 1).toNat), (41 - i).toNat = kk → G X 0 RX10 cX10_choose 5 (some .long) (Ql (fun r M1 => M1 = M ∧ (r = chF a b))) 16 [(2, vl res), (4, vi i), (0, vi a), (1, vi b)] [] M := by
  intro kk
  induction kk using Nat.strongRecOn with
  | ind kk ih =>
    intro res i hL h0 h1 h2 hr hmes
    refine g_iload (pc' := 18) 1 dX10_choose_16 rfl rfl ?_
    refine g_iload_n (pc' := 19) 3 dX10_choose_18 rfl rfl ?_
    refine g_ic_gt (pc' := 22) (tgt := 42) ⟨by omega, by omega⟩ hb dX10_choose_19 rfl rfl (fun c1 => ?_) (fun c1 => ?_)
    · refine g_lload_n (pc' := 43) 0 dX10_choose_42 rfl rfl ?_
      refine g_lreturn dX10_choose_43 ?_
      exact ⟨rfl, chF_l (by omega) (by omega) hr⟩
    · refine g_lload_n (pc' := 23) 0 dX10_choose_22 rfl rfl ?_
      refine g_iload_n (pc' := 24) 2 dX10_choose_23 rfl rfl ?_
      refine g_iload_n (pc' := 25) 3 dX10_choose_24 rfl rfl ?_
      refine g_isub (pc' := 26) dX10_choose_25 rfl ?_
      refine g_iload (pc' := 28) 1 dX10_choose_26 rfl rfl ?_
      refine g_iadd (pc' := 29) dX10_choose_28 rfl ?_
      refine g_i2l (pc' := 30) ⟨by omega, by omega⟩ dX10_choose_29 rfl ?_
      refine g_lmul (pc' := 31) dX10_choose_30 rfl ?_
      refine g_nrmL (fun n2 rn2 en2 => ?_)
      refine g_iload (pc' := 33) 1 dX10_choose_31 rfl rfl ?_
      refine g_i2l (pc' := 34) ⟨by omega, by omega⟩ dX10_choose_33 rfl ?_
      refine g_ldiv (pc' := 35) rn2 ⟨by omega, by omega⟩ (by omega) dX10_choose_34 rfl ?_
      refine g_nrmL (fun n3 rn3 en3 => ?_)
      have hch := ch_s (n := a) (k := b) h0 hr en2 en3
      refine g_lstore_n (pc' := 36) (i := 2) (L' := [(2, vl n3), (4, vi i), (0, vi a), (1, vi b)]) dX10_choose_35 rfl rfl (by decide) rfl ?_
      refine g_iinc (pc' := 39) (L' := [(4, vi (i + 1)), (2, vl n3), (0, vi a), (1, vi b)]) 1 dX10_choose_36 rfl rfl (by decide) rfl ?_
      refine g_goto (tgt := 16) dX10_choose_39 rfl ?_
      refine g_sub [1, 0, 2, 3] rfl ?_
      exact ih _ (by omega) n3 (i + 1) (by first | assumption | decide) (by omega) (by omega) (by omega) hch rfl
set_option maxHeartbeats 4000000 in
set_option maxRecDepth 100000 in
theorem c_X10_choose_x (X : Cx) (M : Mm) (a : Int) (ha : inI a) (b : Int) (hb : inI b) (pa : 0 ≤ a ∧ a ≤ 40) (pb : 0 ≤ b ∧ b ≤ 40) : Con X 0 yX10_choose cX10_choose 5 (some .long) [vi a, vi b] M (Ql (fun r M1 => M1 = M ∧ (r = chF a b))) := by
  refine Con.ofG rfl (Nat.le_of_ble_eq_true rfl) ?_
  show G X 0 RX10 cX10_choose 5 (some .long) (Ql (fun r M1 => M1 = M ∧ (r = chF a b))) 0 [(0, vi a), (1, vi b)] [] M
  refine g_iload_n (pc' := 1) 1 dX10_choose_0 rfl rfl ?_
  refine g_if_lt (pc' := 4) (tgt := 9) hb dX10_choose_1 rfl rfl (fun c1 => ?_) (fun c1 => ?_)
  · refine g_lconst (pc' := 10) (v := 0) dX10_choose_9 rfl (by decide) ?_
    refine g_lreturn dX10_choose_10 ?_
    exact ⟨rfl, by first | rw [chF_0 (by omega)] | omega⟩
  · refine g_iload_n (pc' := 5) 1 dX10_choose_4 rfl rfl ?_
    refine g_iload_n (pc' := 6) 0 dX10_choose_5 rfl rfl ?_
    refine g_ic_le (pc' := 9) (tgt := 11) hb ha dX10_choose_6 rfl rfl (fun c2 => ?_) (fun c2 => ?_)
    · refine g_lconst (pc' := 12) (v := 1) dX10_choose_11 rfl (by decide) ?_
      refine g_lstore_n (pc' := 13) (i := 2) (L' := [(2, vl 1), (0, vi a), (1, vi b)]) dX10_choose_12 rfl rfl (by decide) rfl ?_
      refine g_iconst (pc' := 14) dX10_choose_13 rfl ?_
      refine g_istore (pc' := 16) (L' := [(4, vi 1), (2, vl 1), (0, vi a), (1, vi b)]) dX10_choose_14 rfl (by decide) rfl ?_
      refine g_sub [1, 0, 2, 3] rfl ?_
      exact l_X10_choose_x_16 X M a ha b hb pa pb _ 1 1 (by first | assumption | decide) (by omega) (by omega) (by omega) rfl rfl
    · refine g_lconst (pc' := 10) (v := 0) dX10_choose_9 rfl (by decide) ?_
      refine g_lreturn dX10_choose_10 ?_
      exact ⟨rfl, by first | rw [chF_0 (by omega)] | omega⟩
set_option maxHeartbeats 4000000 in
set_option maxRecDepth 100000 in
theorem c_X9_cards_x (X : Cx) (M : Mm) (hi : IC M) (a : Int) (ha : inI a) (b : Int) (hb : inI b) (c : Int) (hc : inI c) (j : Int) (hj : inI j) (w : Int) (hw : inI w) : Con X 10 yX9_cards cX9_cards 8 (some .long) [vr X 0, vi a, vi b, vi c, vi j, vi w] M (Ql (fun r M1 => M1 = M ∧ (r = cardF a b c j w))) := by
  refine Con.ofG rfl (Nat.le_of_ble_eq_true rfl) ?_
  show G X 10 RX9 cX9_cards 8 (some .long) (Ql (fun r M1 => M1 = M ∧ (r = cardF a b c j w))) 0 [(0, vr X 0), (1, vi a), (2, vi b), (3, vi c), (4, vi j), (5, vi w)] [] M
  refine g_iload_n (pc' := 1) 1 dX9_cards_0 rfl rfl ?_
  refine g_iconst (pc' := 2) dX9_cards_1 rfl ?_
  refine g_bipush (pc' := 4) (v := 20) dX9_cards_2 rfl (by decide) ?_
  refine g_callSip (pc' := 7) (As := [vi a, vi 0, vi 20]) (S := []) dX9_cards_4 rfl m_X9_191 w_X9_isWithin (c_X9_isWithin X M a ha 0 (by decide) 20 (by decide)) rfl (by decide) (by decide) rfl (Nat.le_of_ble_eq_true rfl) (fun z2 q1 => ?_)
  refine g_if_eq (pc' := 10) (tgt := 20) ⟨by omega, by omega⟩ dX9_cards_7 rfl rfl (fun c3 => ?_) (fun c3 => ?_)
  · replace q1 := q1.resolve_left (fun h => absurd (c3.symm.trans h.1) (by decide))
    refine g_ldc2 (pc' := 23) (v := (-1)) dX9_cards_20 rfl k_X9_104 ?_
    refine g_lreturn dX9_cards_23 ?_
    exact ⟨rfl, by rw [cardF_n (by omega)]⟩
  · replace q1 := q1.resolve_right (fun h => c3 h.1)
    refine g_iload_n (pc' := 11) 2 dX9_cards_10 rfl rfl ?_
    refine g_iconst (pc' := 12) dX9_cards_11 rfl ?_
    refine g_bipush (pc' := 14) (v := 20) dX9_cards_12 rfl (by decide) ?_
    refine g_callSip (pc' := 17) (As := [vi b, vi 0, vi 20]) (S := []) dX9_cards_14 rfl m_X9_191 w_X9_isWithin (c_X9_isWithin X M b hb 0 (by decide) 20 (by decide)) rfl (by decide) (by decide) rfl (Nat.le_of_ble_eq_true rfl) (fun z5 q4 => ?_)
    refine g_if_ne (pc' := 20) (tgt := 24) ⟨by omega, by omega⟩ dX9_cards_17 rfl rfl (fun c6 => ?_) (fun c6 => ?_)
    · replace q4 := q4.resolve_right (fun h => c6 h.1)
      refine g_iload_n (pc' := 25) 3 dX9_cards_24 rfl rfl ?_
      refine g_iconst (pc' := 26) dX9_cards_25 rfl ?_
      refine g_iload_n (pc' := 27) 1 dX9_cards_26 rfl rfl ?_
      refine g_callSip (pc' := 30) (As := [vi c, vi 0, vi a]) (S := []) dX9_cards_27 rfl m_X9_191 w_X9_isWithin (c_X9_isWithin X M c hc 0 (by decide) a ha) rfl (by decide) (by decide) rfl (Nat.le_of_ble_eq_true rfl) (fun z8 q7 => ?_)
      refine g_if_eq (pc' := 33) (tgt := 53) ⟨by omega, by omega⟩ dX9_cards_30 rfl rfl (fun c9 => ?_) (fun c9 => ?_)
      · replace q7 := q7.resolve_left (fun h => absurd (c9.symm.trans h.1) (by decide))
        refine g_ldc2 (pc' := 56) (v := (-1)) dX9_cards_53 rfl k_X9_104 ?_
        refine g_lreturn dX9_cards_56 ?_
        exact ⟨rfl, by rw [cardF_n (by omega)]⟩
      · replace q7 := q7.resolve_right (fun h => c9 h.1)
        refine g_iload (pc' := 35) 4 dX9_cards_33 rfl rfl ?_
        refine g_iconst (pc' := 36) dX9_cards_35 rfl ?_
        refine g_iload_n (pc' := 37) 3 dX9_cards_36 rfl rfl ?_
        refine g_callSip (pc' := 40) (As := [vi j, vi 0, vi c]) (S := []) dX9_cards_37 rfl m_X9_191 w_X9_isWithin (c_X9_isWithin X M j hj 0 (by decide) c hc) rfl (by decide) (by decide) rfl (Nat.le_of_ble_eq_true rfl) (fun z11 q10 => ?_)
        refine g_if_eq (pc' := 43) (tgt := 53) ⟨by omega, by omega⟩ dX9_cards_40 rfl rfl (fun c12 => ?_) (fun c12 => ?_)
        · replace q10 := q10.resolve_left (fun h => absurd (c12.symm.trans h.1) (by decide))
          refine g_ldc2 (pc' := 56) (v := (-1)) dX9_cards_53 rfl k_X9_104 ?_
          refine g_lreturn dX9_cards_56 ?_
          exact ⟨rfl, by rw [cardF_n (by omega)]⟩
        · replace q10 := q10.resolve_right (fun h => c12 h.1)
          refine g_iload (pc' := 45) 5 dX9_cards_43 rfl rfl ?_
          refine g_iconst (pc' := 46) dX9_cards_45 rfl ?_
          refine g_iconst (pc' := 47) dX9_cards_46 rfl ?_
          refine g_callSip (pc' := 50) (As := [vi w, vi 0, vi 1]) (S := []) dX9_cards_47 rfl m_X9_191 w_X9_isWithin (c_X9_isWithin X M w hw 0 (by decide) 1 (by decide)) rfl (by decide) (by decide) rfl (Nat.le_of_ble_eq_true rfl) (fun z14 q13 => ?_)
          refine g_if_ne (pc' := 53) (tgt := 57) ⟨by omega, by omega⟩ dX9_cards_50 rfl rfl (fun c15 => ?_) (fun c15 => ?_)
          · replace q13 := q13.resolve_right (fun h => c15 h.1)
            refine g_iload_n (pc' := 58) 1 dX9_cards_57 rfl rfl ?_
            refine g_iload_n (pc' := 59) 3 dX9_cards_58 rfl rfl ?_
            refine g_callSlp (pc' := 62) (As := [vi a, vi c]) (S := []) dX9_cards_59 rfl m_X9_263 w_X9_choices (c_X9_choices_x X M a ha c hc (by omega) (by omega)) rfl (by decide) (by decide) rfl (Nat.le_of_ble_eq_true rfl) (fun z17 q16 => ?_)
            refine g_lstore (pc' := 64) (L' := [(6, vl z17), (0, vr X 0), (1, vi a), (2, vi b), (3, vi c), (4, vi j), (5, vi w)]) dX9_cards_62 rfl (by decide) rfl ?_
            refine g_iload (pc' := 66) 6 dX9_cards_64 rfl rfl ?_
            refine g_iconst (pc' := 67) dX9_cards_66 rfl ?_
            refine g_ic_ne (pc' := 70) (tgt := 81) hw (by decide) dX9_cards_67 rfl rfl (fun c18 => ?_) (fun c18 => ?_)
            · refine g_lload (pc' := 83) 0 dX9_cards_81 rfl rfl ?_
              refine g_iload_n (pc' := 84) 4 dX9_cards_83 rfl rfl ?_
              refine g_iload (pc' := 86) 5 dX9_cards_84 rfl rfl ?_
              refine g_callSlp (pc' := 89) (As := [vi c, vi j]) (S := [vl z17]) dX9_cards_86 rfl m_X9_263 w_X9_choices (c_X9_choices_x X M c hc j hj (by omega) (by omega)) rfl (by decide) (by decide) rfl (Nat.le_of_ble_eq_true rfl) (fun z20 q19 => ?_)
              refine g_lmul (pc' := 90) dX9_cards_89 rfl ?_
              refine g_nrmL (fun n21 rn21 en21 => ?_)
              refine g_iload_n (pc' := 91) 3 dX9_cards_90 rfl rfl ?_
              refine g_iload (pc' := 93) 5 dX9_cards_91 rfl rfl ?_
              refine g_callSlp (pc' := 96) (As := [vi b, vi j]) (S := [vl n21]) dX9_cards_93 rfl m_X9_263 w_X9_choices (c_X9_choices_x X M b hb j hj (by omega) (by omega)) rfl (by decide) (by decide) rfl (Nat.le_of_ble_eq_true rfl) (fun z23 q22 => ?_)
              refine g_lmul (pc' := 97) dX9_cards_96 rfl ?_
              refine g_nrmL (fun n24 rn24 en24 => ?_)
              refine g_lreturn dX9_cards_97 ?_
              exact ⟨rfl, cardF_x (by omega) (by omega) q16 q19 q22 en21 en24⟩
            · refine g_lload (pc' := 72) 0 dX9_cards_70 rfl rfl ?_
              refine g_iload_n (pc' := 73) 3 dX9_cards_72 rfl rfl ?_
              refine g_iload_n (pc' := 74) 4 dX9_cards_73 rfl rfl ?_
              refine g_iadd (pc' := 75) dX9_cards_74 rfl ?_
              refine g_iload_n (pc' := 76) 4 dX9_cards_75 rfl rfl ?_
              refine g_callSlp (pc' := 79) (As := [vi (b + c), vi c]) (S := [vl z17]) dX9_cards_76 rfl m_X9_263 w_X9_choices (c_X9_choices_x X M (b + c) ⟨by omega, by omega⟩ c hc (by omega) (by omega)) rfl (by decide) (by decide) rfl (Nat.le_of_ble_eq_true rfl) (fun z26 q25 => ?_)
              refine g_lmul (pc' := 80) dX9_cards_79 rfl ?_
              refine g_nrmL (fun n27 rn27 en27 => ?_)
              refine g_lreturn dX9_cards_80 ?_
              exact ⟨rfl, cardF_1 (by omega) (by omega) q16 q25 en27⟩
          · replace q13 := q13.resolve_left (fun h => absurd (c15.symm.trans h.1) (by decide))
            refine g_ldc2 (pc' := 56) (v := (-1)) dX9_cards_53 rfl k_X9_104 ?_
            refine g_lreturn dX9_cards_56 ?_
            exact ⟨rfl, by rw [cardF_n (by omega)]⟩
    · replace q4 := q4.resolve_left (fun h => absurd (c6.symm.trans h.1) (by decide))
      refine g_ldc2 (pc' := 23) (v := (-1)) dX9_cards_20 rfl k_X9_104 ?_
      refine g_lreturn dX9_cards_23 ?_
      exact ⟨rfl, by rw [cardF_n (by omega)]⟩
set_option maxHeartbeats 4000000 in
set_option maxRecDepth 100000 in
theorem c_X10_cards_x (X : Cx) (M : Mm) (hi : IM M) (a : Int) (ha : inI a) (b : Int) (hb : inI b) (c : Int) (hc : inI c) (j : Int) (hj : inI j) (e : Int) (he : inI e) : Con X 12 yX10_cards cX10_cards 6 (some .long) [vr X 97, vi a, vi b, vi c, vi j, vi e] M (Ql (fun r M1 => IM M1 ∧ Fr (fun c => 97 ≤ c ∧ c ≤ 116) M M1 ∧ M1 99 0 = M 99 0 ∧ M1 99 1 = M 99 1 ∧ M1 99 2 = M 99 2 ∧ M1 99 3 = M 99 3 ∧ M1 100 0 = M 100 0 ∧ M1 100 1 = M 100 1 ∧ M1 100 2 = M 100 2 ∧ M1 100 3 = M 100 3 ∧ M1 100 49 = M 100 49 ∧ M1 100 50 = M 100 50 ∧ M1 100 51 = M 100 51 ∧ M1 100 52 = M 100 52 ∧ M1 103 0 = M 103 0 ∧ M1 103 1 = M 103 1 ∧ M1 97 12 = M 97 12 ∧ (r = cardF a b c j e))) := by
  refine Con.ofG rfl (Nat.le_of_ble_eq_true rfl) ?_
  show G X 12 RX10 cX10_cards 6 (some .long) (Ql (fun r M1 => IM M1 ∧ Fr (fun c => 97 ≤ c ∧ c ≤ 116) M M1 ∧ M1 99 0 = M 99 0 ∧ M1 99 1 = M 99 1 ∧ M1 99 2 = M 99 2 ∧ M1 99 3 = M 99 3 ∧ M1 100 0 = M 100 0 ∧ M1 100 1 = M 100 1 ∧ M1 100 2 = M 100 2 ∧ M1 100 3 = M 100 3 ∧ M1 100 49 = M 100 49 ∧ M1 100 50 = M 100 50 ∧ M1 100 51 = M 100 51 ∧ M1 100 52 = M 100 52 ∧ M1 103 0 = M 103 0 ∧ M1 103 1 = M 103 1 ∧ M1 97 12 = M 97 12 ∧ (r = cardF a b c j e))) 0 [(0, vr X 97), (1, vi a), (2, vi b), (3, vi c), (4, vi j), (5, vi e)] [] M
  have p0 := hi.1.1
  have p1 := hi.1.2.1
  have p2 := hi.1.2.2.1
  have p3 := hi.1.2.2.2.1
  have p12 := hi.2.2.2.1
  refine g_aload_n (pc' := 1) 0 dX10_cards_0 rfl rfl ?_
  refine g_iconst (pc' := 2) dX10_cards_1 rfl ?_
  refine g_putI (pc' := 5) dX10_cards_2 rfl p_X10_77 rfl rfl (by decide) (fun M1 hM1 => ?_)
  have iM1 : IM M1 := IM.wr hi hM1 (by unfold okv; first | decide | omega)
  have fM1 : Fr (fun c => 97 ≤ c ∧ c ≤ 116) M M1 := Fr.wr Fr.rf hM1 (by first | decide | omega | (dsimp only; omega))
  have q99_0_M1 : (M1 99 0 = M 99 0) := (show M1 99 0 = M 99 0 by rw [hM1]; exact mu_ne _ _ (by first | decide | omega))
  have q99_1_M1 : (M1 99 1 = M 99 1) := (show M1 99 1 = M 99 1 by rw [hM1]; exact mu_ne _ _ (by first | decide | omega))
  have q99_2_M1 : (M1 99 2 = M 99 2) := (show M1 99 2 = M 99 2 by rw [hM1]; exact mu_ne _ _ (by first | decide | omega))
  have q99_3_M1 : (M1 99 3 = M 99 3) := (show M1 99 3 = M 99 3 by rw [hM1]; exact mu_ne _ _ (by first | decide | omega))
  have q100_0_M1 : id (M1 100 0 = M 100 0) := (show M1 100 0 = M 100 0 by rw [hM1]; exact mu_ne _ _ (by first | decide | omega))
  have q100_1_M1 : id (M1 100 1 = M 100 1) := (show M1 100 1 = M 100 1 by rw [hM1]; exact mu_ne _ _ (by first | decide | omega))
  have q100_2_M1 : id (M1 100 2 = M 100 2) := (show M1 100 2 = M 100 2 by rw [hM1]; exact mu_ne _ _ (by first | decide | omega))
  have q100_3_M1 : id (M1 100 3 = M 100 3) := (show M1 100 3 = M 100 3 by rw [hM1]; exact mu_ne _ _ (by first | decide | omega))
  have q100_49_M1 : id (M1 100 49 = M 100 49) := (show M1 100 49 = M 100 49 by rw [hM1]; exact mu_ne _ _ (by first | decide | omega))
  have q100_50_M1 : id (M1 100 50 = M 100 50) := (show M1 100 50 = M 100 50 by rw [hM1]; exact mu_ne _ _ (by first | decide | omega))
  have q100_51_M1 : id (M1 100 51 = M 100 51) := (show M1 100 51 = M 100 51 by rw [hM1]; exact mu_ne _ _ (by first | decide | omega))
  have q100_52_M1 : id (M1 100 52 = M 100 52) := (show M1 100 52 = M 100 52 by rw [hM1]; exact mu_ne _ _ (by first | decide | omega))
  have q103_0_M1 : id (M1 103 0 = M 103 0) := (show M1 103 0 = M 103 0 by rw [hM1]; exact mu_ne _ _ (by first | decide | omega))
  have q103_1_M1 : id (M1 103 1 = M 103 1) := (show M1 103 1 = M 103 1 by rw [hM1]; exact mu_ne _ _ (by first | decide | omega))
  have q97_12_M1 : (M1 97 12 = M 97 12) := (show M1 97 12 = M 97 12 by rw [hM1]; exact mu_ne _ _ (by first | decide | omega))
  have xM1_97_0 : M1 97 0 = 0 := by rw [hM1]; exact mu_at _ _ _ _
  refine g_iload_n (pc' := 6) 1 dX10_cards_5 rfl rfl ?_
  refine g_i2l (pc' := 7) ha dX10_cards_6 rfl ?_
  refine g_lconst (pc' := 8) (v := 0) dX10_cards_7 rfl (by decide) ?_
  refine g_ldc2 (pc' := 11) (v := 20) dX10_cards_8 rfl k_X10_204 ?_
  refine g_callSip (pc' := 14) (As := [vl a, vl 0, vl 20]) (S := []) dX10_cards_11 rfl m_X10_83 w_X10_in (c_X10_in X M1 a ⟨by omega, by omega⟩ 0 (by decide) 20 (by decide)) rfl (by decide) (by decide) rfl (Nat.le_of_ble_eq_true rfl) (fun z3 q2 => ?_)
  refine g_if_eq (pc' := 17) (tgt := 63) ⟨by omega, by omega⟩ dX10_cards_14 rfl rfl (fun c4 => ?_) (fun c4 => ?_)
  · replace q2 := q2.resolve_left (fun h => absurd (c4.symm.trans h.1) (by decide))
    refine g_ldc2 (pc' := 66) (v := (-1)) dX10_cards_63 rfl k_X10_108 ?_
    refine g_lreturn dX10_cards_66 ?_
    exact ⟨iM1, fM1, q99_0_M1, q99_1_M1, q99_2_M1, q99_3_M1, q100_0_M1, q100_1_M1, q100_2_M1, q100_3_M1, q100_49_M1, q100_50_M1, q100_51_M1, q100_52_M1, q103_0_M1, q103_1_M1, q97_12_M1, by rw [cardF_n (by omega)]⟩
  · replace q2 := q2.resolve_right (fun h => c4 h.1)
    refine g_iload_n (pc' := 18) 2 dX10_cards_17 rfl rfl ?_
    refine g_i2l (pc' := 19) hb dX10_cards_18 rfl ?_
    refine g_lconst (pc' := 20) (v := 0) dX10_cards_19 rfl (by decide) ?_
    refine g_ldc2 (pc' := 23) (v := 20) dX10_cards_20 rfl k_X10_204 ?_
    refine g_callSip (pc' := 26) (As := [vl b, vl 0, vl 20]) (S := []) dX10_cards_23 rfl m_X10_83 w_X10_in (c_X10_in X M1 b ⟨by omega, by omega⟩ 0 (by decide) 20 (by decide)) rfl (by decide) (by decide) rfl (Nat.le_of_ble_eq_true rfl) (fun z6 q5 => ?_)
    refine g_if_eq (pc' := 29) (tgt := 63) ⟨by omega, by omega⟩ dX10_cards_26 rfl rfl (fun c7 => ?_) (fun c7 => ?_)
    · replace q5 := q5.resolve_left (fun h => absurd (c7.symm.trans h.1) (by decide))
      refine g_ldc2 (pc' := 66) (v := (-1)) dX10_cards_63 rfl k_X10_108 ?_
      refine g_lreturn dX10_cards_66 ?_
      exact ⟨iM1, fM1, q99_0_M1, q99_1_M1, q99_2_M1, q99_3_M1, q100_0_M1, q100_1_M1, q100_2_M1, q100_3_M1, q100_49_M1, q100_50_M1, q100_51_M1, q100_52_M1, q103_0_M1, q103_1_M1, q97_12_M1, by rw [cardF_n (by omega)]⟩
    · replace q5 := q5.resolve_right (fun h => c7 h.1)
      refine g_iload_n (pc' := 30) 3 dX10_cards_29 rfl rfl ?_
      refine g_i2l (pc' := 31) hc dX10_cards_30 rfl ?_
      refine g_lconst (pc' := 32) (v := 0) dX10_cards_31 rfl (by decide) ?_
      refine g_iload_n (pc' := 33) 1 dX10_cards_32 rfl rfl ?_
      refine g_i2l (pc' := 34) ha dX10_cards_33 rfl ?_
      refine g_callSip (pc' := 37) (As := [vl c, vl 0, vl a]) (S := []) dX10_cards_34 rfl m_X10_83 w_X10_in (c_X10_in X M1 c ⟨by omega, by omega⟩ 0 (by decide) a ⟨by omega, by omega⟩) rfl (by decide) (by decide) rfl (Nat.le_of_ble_eq_true rfl) (fun z9 q8 => ?_)
      refine g_if_eq (pc' := 40) (tgt := 63) ⟨by omega, by omega⟩ dX10_cards_37 rfl rfl (fun c10 => ?_) (fun c10 => ?_)
      · replace q8 := q8.resolve_left (fun h => absurd (c10.symm.trans h.1) (by decide))
        refine g_ldc2 (pc' := 66) (v := (-1)) dX10_cards_63 rfl k_X10_108 ?_
        refine g_lreturn dX10_cards_66 ?_
        exact ⟨iM1, fM1, q99_0_M1, q99_1_M1, q99_2_M1, q99_3_M1, q100_0_M1, q100_1_M1, q100_2_M1, q100_3_M1, q100_49_M1, q100_50_M1, q100_51_M1, q100_52_M1, q103_0_M1, q103_1_M1, q97_12_M1, by rw [cardF_n (by omega)]⟩
      · replace q8 := q8.resolve_right (fun h => c10 h.1)
        refine g_iload (pc' := 42) 4 dX10_cards_40 rfl rfl ?_
        refine g_i2l (pc' := 43) hj dX10_cards_42 rfl ?_
        refine g_lconst (pc' := 44) (v := 0) dX10_cards_43 rfl (by decide) ?_
        refine g_iload_n (pc' := 45) 3 dX10_cards_44 rfl rfl ?_
        refine g_i2l (pc' := 46) hc dX10_cards_45 rfl ?_
        refine g_callSip (pc' := 49) (As := [vl j, vl 0, vl c]) (S := []) dX10_cards_46 rfl m_X10_83 w_X10_in (c_X10_in X M1 j ⟨by omega, by omega⟩ 0 (by decide) c ⟨by omega, by omega⟩) rfl (by decide) (by decide) rfl (Nat.le_of_ble_eq_true rfl) (fun z12 q11 => ?_)
        refine g_if_eq (pc' := 52) (tgt := 63) ⟨by omega, by omega⟩ dX10_cards_49 rfl rfl (fun c13 => ?_) (fun c13 => ?_)
        · replace q11 := q11.resolve_left (fun h => absurd (c13.symm.trans h.1) (by decide))
          refine g_ldc2 (pc' := 66) (v := (-1)) dX10_cards_63 rfl k_X10_108 ?_
          refine g_lreturn dX10_cards_66 ?_
          exact ⟨iM1, fM1, q99_0_M1, q99_1_M1, q99_2_M1, q99_3_M1, q100_0_M1, q100_1_M1, q100_2_M1, q100_3_M1, q100_49_M1, q100_50_M1, q100_51_M1, q100_52_M1, q103_0_M1, q103_1_M1, q97_12_M1, by rw [cardF_n (by omega)]⟩
        · replace q11 := q11.resolve_right (fun h => c13 h.1)
          refine g_iload (pc' := 54) 5 dX10_cards_52 rfl rfl ?_
          refine g_i2l (pc' := 55) he dX10_cards_54 rfl ?_
          refine g_lconst (pc' := 56) (v := 0) dX10_cards_55 rfl (by decide) ?_
          refine g_lconst (pc' := 57) (v := 1) dX10_cards_56 rfl (by decide) ?_
          refine g_callSip (pc' := 60) (As := [vl e, vl 0, vl 1]) (S := []) dX10_cards_57 rfl m_X10_83 w_X10_in (c_X10_in X M1 e ⟨by omega, by omega⟩ 0 (by decide) 1 (by decide)) rfl (by decide) (by decide) rfl (Nat.le_of_ble_eq_true rfl) (fun z15 q14 => ?_)
          refine g_if_ne (pc' := 63) (tgt := 67) ⟨by omega, by omega⟩ dX10_cards_60 rfl rfl (fun c16 => ?_) (fun c16 => ?_)
          · replace q14 := q14.resolve_right (fun h => c16 h.1)
            refine g_iload_n (pc' := 68) 1 dX10_cards_67 rfl rfl ?_
            refine g_iload_n (pc' := 69) 3 dX10_cards_68 rfl rfl ?_
            refine g_callSlp (pc' := 72) (As := [vi a, vi c]) (S := []) dX10_cards_69 rfl m_X10_396 w_X10_choose (c_X10_choose_x X M1 a ha c hc (by omega) (by omega)) rfl (by decide) (by decide) rfl (Nat.le_of_ble_eq_true rfl) (fun z18 q17 => ?_)
            refine g_iload (pc' := 74) 5 dX10_cards_72 rfl rfl ?_
            refine g_iconst (pc' := 75) dX10_cards_74 rfl ?_
            refine g_ic_ne (pc' := 78) (tgt := 88) he (by decide) dX10_cards_75 rfl rfl (fun c19 => ?_) (fun c19 => ?_)
            · refine g_iload_n (pc' := 89) 3 dX10_cards_88 rfl rfl ?_
              refine g_iload (pc' := 91) 4 dX10_cards_89 rfl rfl ?_
              refine g_callSlp (pc' := 94) (As := [vi c, vi j]) (S := [vl z18]) dX10_cards_91 rfl m_X10_396 w_X10_choose (c_X10_choose_x X M1 c hc j hj (by omega) (by omega)) rfl (by decide) (by decide) rfl (Nat.le_of_ble_eq_true rfl) (fun z21 q20 => ?_)
              refine g_iload_n (pc' := 95) 2 dX10_cards_94 rfl rfl ?_
              refine g_iload (pc' := 97) 4 dX10_cards_95 rfl rfl ?_
              refine g_callSlp (pc' := 100) (As := [vi b, vi j]) (S := [vl z21, vl z18]) dX10_cards_97 rfl m_X10_396 w_X10_choose (c_X10_choose_x X M1 b hb j hj (by omega) (by omega)) rfl (by decide) (by decide) rfl (Nat.le_of_ble_eq_true rfl) (fun z23 q22 => ?_)
              refine g_lmul (pc' := 101) dX10_cards_100 rfl ?_
              refine g_nrmL (fun n24 rn24 en24 => ?_)
              refine g_lmul (pc' := 102) dX10_cards_101 rfl ?_
              refine g_nrmL (fun n25 rn25 en25 => ?_)
              refine g_lreturn dX10_cards_102 ?_
              exact ⟨iM1, fM1, q99_0_M1, q99_1_M1, q99_2_M1, q99_3_M1, q100_0_M1, q100_1_M1, q100_2_M1, q100_3_M1, q100_49_M1, q100_50_M1, q100_51_M1, q100_52_M1, q103_0_M1, q103_1_M1, q97_12_M1, cardF_m (by omega) (by omega) q17 q20 q22 en24 en25⟩
            · refine g_iload_n (pc' := 79) 2 dX10_cards_78 rfl rfl ?_
              refine g_iload_n (pc' := 80) 3 dX10_cards_79 rfl rfl ?_
              refine g_iadd (pc' := 81) dX10_cards_80 rfl ?_
              refine g_iload_n (pc' := 82) 3 dX10_cards_81 rfl rfl ?_
              refine g_callSlp (pc' := 85) (As := [vi (b + c), vi c]) (S := [vl z18]) dX10_cards_82 rfl m_X10_396 w_X10_choose (c_X10_choose_x X M1 (b + c) ⟨by omega, by omega⟩ c hc (by omega) (by omega)) rfl (by decide) (by decide) rfl (Nat.le_of_ble_eq_true rfl) (fun z27 q26 => ?_)
              refine g_goto (tgt := 101) dX10_cards_85 rfl ?_
              refine g_lmul (pc' := 102) dX10_cards_101 rfl ?_
              refine g_nrmL (fun n28 rn28 en28 => ?_)
              refine g_lreturn dX10_cards_102 ?_
              exact ⟨iM1, fM1, q99_0_M1, q99_1_M1, q99_2_M1, q99_3_M1, q100_0_M1, q100_1_M1, q100_2_M1, q100_3_M1, q100_49_M1, q100_50_M1, q100_51_M1, q100_52_M1, q103_0_M1, q103_1_M1, q97_12_M1, cardF_1 (by omega) (by omega) q17 q26 en28⟩
          · replace q14 := q14.resolve_left (fun h => absurd (c16.symm.trans h.1) (by decide))
            refine g_ldc2 (pc' := 66) (v := (-1)) dX10_cards_63 rfl k_X10_108 ?_
            refine g_lreturn dX10_cards_66 ?_
            exact ⟨iM1, fM1, q99_0_M1, q99_1_M1, q99_2_M1, q99_3_M1, q100_0_M1, q100_1_M1, q100_2_M1, q100_3_M1, q100_49_M1, q100_50_M1, q100_51_M1, q100_52_M1, q103_0_M1, q103_1_M1, q97_12_M1, by rw [cardF_n (by omega)]⟩
set_option maxHeartbeats 4000000 in
set_option maxRecDepth 100000 in
theorem c_X9_rinse_x (X : Cx) (M : Mm) (hi : IC M) (a : Int) (ha : inI a) (b : Int) (hb : inI b) (c : Int) (hc : inI c) (w : Int) (hw : inI w) : Con X 10 yX9_rinse cX9_rinse 11 (some .long) [vr X 0, vi a, vi b, vi c, vi w] M (Ql (fun r M1 => M1 = M ∧ (r = rinF a b c w))) := by
  refine Con.ofG rfl (Nat.le_of_ble_eq_true rfl) ?_
  show G X 10 RX9 cX9_rinse 11 (some .long) (Ql (fun r M1 => M1 = M ∧ (r = rinF a b c w))) 0 [(0, vr X 0), (1, vi a), (2, vi b), (3, vi c), (4, vi w)] [] M
  refine g_iload_n (pc' := 1) 1 dX9_rinse_0 rfl rfl ?_
  refine g_iconst (pc' := 2) dX9_rinse_1 rfl ?_
  refine g_bipush (pc' := 4) (v := 9) dX9_rinse_2 rfl (by decide) ?_
  refine g_callSip (pc' := 7) (As := [vi a, vi 1, vi 9]) (S := []) dX9_rinse_4 rfl m_X9_191 w_X9_isWithin (c_X9_isWithin X M a ha 1 (by decide) 9 (by decide)) rfl (by decide) (by decide) rfl (Nat.le_of_ble_eq_true rfl) (fun z2 q1 => ?_)
  refine g_if_eq (pc' := 10) (tgt := 20) ⟨by omega, by omega⟩ dX9_rinse_7 rfl rfl (fun c3 => ?_) (fun c3 => ?_)
  · replace q1 := q1.resolve_left (fun h => absurd (c3.symm.trans h.1) (by decide))
    refine g_ldc2 (pc' := 23) (v := (-1)) dX9_rinse_20 rfl k_X9_104 ?_
    refine g_lreturn dX9_rinse_23 ?_
    exact ⟨rfl, by first | rw [rinF_n (by omega)] | (rw [rinF_l (by omega) (by omega) (by omega)]; omega) | (rw [rinF_m (by omega) (by omega) (by omega)]; omega) | rw [rinF_l (by omega) (by omega) (by omega)] | rw [rinF_m (by omega) (by omega) (by omega)]⟩
  · replace q1 := q1.resolve_right (fun h => c3 h.1)
    refine g_iload_n (pc' := 11) 2 dX9_rinse_10 rfl rfl ?_
    refine g_iconst (pc' := 12) dX9_rinse_11 rfl ?_
    refine g_bipush (pc' := 14) (v := 60) dX9_rinse_12 rfl (by decide) ?_
    refine g_callSip (pc' := 17) (As := [vi b, vi 0, vi 60]) (S := []) dX9_rinse_14 rfl m_X9_191 w_X9_isWithin (c_X9_isWithin X M b hb 0 (by decide) 60 (by decide)) rfl (by decide) (by decide) rfl (Nat.le_of_ble_eq_true rfl) (fun z5 q4 => ?_)
    refine g_if_ne (pc' := 20) (tgt := 24) ⟨by omega, by omega⟩ dX9_rinse_17 rfl rfl (fun c6 => ?_) (fun c6 => ?_)
    · replace q4 := q4.resolve_right (fun h => c6 h.1)
      refine g_iload_n (pc' := 25) 3 dX9_rinse_24 rfl rfl ?_
      refine g_iconst (pc' := 26) dX9_rinse_25 rfl ?_
      refine g_ic_lt (pc' := 29) (tgt := 47) hc (by decide) dX9_rinse_26 rfl rfl (fun c7 => ?_) (fun c7 => ?_)
      · refine g_ldc2 (pc' := 50) (v := (-1)) dX9_rinse_47 rfl k_X9_104 ?_
        refine g_lreturn dX9_rinse_50 ?_
        exact ⟨rfl, by first | rw [rinF_n (by omega)] | (rw [rinF_l (by omega) (by omega) (by omega)]; omega) | (rw [rinF_m (by omega) (by omega) (by omega)]; omega) | rw [rinF_l (by omega) (by omega) (by omega)] | rw [rinF_m (by omega) (by omega) (by omega)]⟩
      · refine g_iload_n (pc' := 30) 3 dX9_rinse_29 rfl rfl ?_
        refine g_bipush (pc' := 32) (v := 6) dX9_rinse_30 rfl (by decide) ?_
        refine g_ic_gt (pc' := 35) (tgt := 47) hc (by decide) dX9_rinse_32 rfl rfl (fun c8 => ?_) (fun c8 => ?_)
        · refine g_ldc2 (pc' := 50) (v := (-1)) dX9_rinse_47 rfl k_X9_104 ?_
          refine g_lreturn dX9_rinse_50 ?_
          exact ⟨rfl, by first | rw [rinF_n (by omega)] | (rw [rinF_l (by omega) (by omega) (by omega)]; omega) | (rw [rinF_m (by omega) (by omega) (by omega)]; omega) | rw [rinF_l (by omega) (by omega) (by omega)] | rw [rinF_m (by omega) (by omega) (by omega)]⟩
        · refine g_iload (pc' := 37) 4 dX9_rinse_35 rfl rfl ?_
          refine g_iconst (pc' := 38) dX9_rinse_37 rfl ?_
          refine g_iconst (pc' := 39) dX9_rinse_38 rfl ?_
          refine g_iload_n (pc' := 40) 3 dX9_rinse_39 rfl rfl ?_
          refine g_iadd (pc' := 41) dX9_rinse_40 rfl ?_
          refine g_callSip (pc' := 44) (As := [vi w, vi 0, vi (1 + c)]) (S := []) dX9_rinse_41 rfl m_X9_191 w_X9_isWithin (c_X9_isWithin X M w hw 0 (by decide) (1 + c) ⟨by omega, by omega⟩) rfl (by decide) (by decide) rfl (Nat.le_of_ble_eq_true rfl) (fun z10 q9 => ?_)
          refine g_if_ne (pc' := 47) (tgt := 51) ⟨by omega, by omega⟩ dX9_rinse_44 rfl rfl (fun c11 => ?_) (fun c11 => ?_)
          · replace q9 := q9.resolve_right (fun h => c11 h.1)
            have hw1 := tmr (x := b) (k := c) (by omega) (by omega)
            have hw2 := tdr (x := b) (k := c) (by omega) (by omega)
            refine g_iload_n (pc' := 52) 2 dX9_rinse_51 rfl rfl ?_
            refine g_iload_n (pc' := 53) 3 dX9_rinse_52 rfl rfl ?_
            refine g_idiv (pc' := 54) hb hc (by omega) dX9_rinse_53 rfl ?_
            refine g_istore (pc' := 56) (L' := [(5, vi (b.tdiv c)), (0, vr X 0), (1, vi a), (2, vi b), (3, vi c), (4, vi w)]) dX9_rinse_54 rfl (by decide) rfl ?_
            refine g_iload_n (pc' := 57) 3 dX9_rinse_56 rfl rfl ?_
            refine g_iload_n (pc' := 58) 4 dX9_rinse_57 rfl rfl ?_
            refine g_irem (pc' := 59) hb hc (by omega) dX9_rinse_58 rfl ?_
            refine g_istore (pc' := 61) (L' := [(6, vi (b.tmod c)), (5, vi (b.tdiv c)), (0, vr X 0), (1, vi a), (2, vi b), (3, vi c), (4, vi w)]) dX9_rinse_59 rfl (by decide) rfl ?_
            refine g_iload (pc' := 63) 6 dX9_rinse_61 rfl rfl ?_
            refine g_iconst (pc' := 64) dX9_rinse_63 rfl ?_
            refine g_ic_lt (pc' := 67) (tgt := 90) hw (by decide) dX9_rinse_64 rfl rfl (fun c12 => ?_) (fun c12 => ?_)
            · refine g_iload_n (pc' := 91) 3 dX9_rinse_90 rfl rfl ?_
              refine g_i2l (pc' := 92) ha dX9_rinse_91 rfl ?_
              refine g_iload_n (pc' := 93) 5 dX9_rinse_92 rfl rfl ?_
              refine g_callSlp (pc' := 96) (As := [vl a, vi c]) (S := []) dX9_rinse_93 rfl m_X9_200 w_X9_power (c_X9_power_x X M a ⟨by omega, by omega⟩ c hc (by omega) (by omega)) rfl (by decide) (by decide) rfl (Nat.le_of_ble_eq_true rfl) (fun z14 q13 => ?_)
              have hz14 := powR (a := a) (k := (c).toNat) (by omega) (by omega) (by omega)
              rw [← q13] at hz14
              refine g_lstore (pc' := 98) (L' := [(7, vl z14), (6, vi (b.tmod c)), (5, vi (b.tdiv c)), (0, vr X 0), (1, vi a), (2, vi b), (3, vi c), (4, vi w)]) dX9_rinse_96 rfl (by decide) rfl ?_
              refine g_iload_n (pc' := 99) 4 dX9_rinse_98 rfl rfl ?_
              refine g_iload (pc' := 101) 2 dX9_rinse_99 rfl rfl ?_
              refine g_iadd (pc' := 102) dX9_rinse_101 rfl ?_
              refine g_i2l (pc' := 103) ⟨by omega, by omega⟩ dX9_rinse_102 rfl ?_
              refine g_iload_n (pc' := 104) 6 dX9_rinse_103 rfl rfl ?_
              refine g_iload (pc' := 106) 1 dX9_rinse_104 rfl rfl ?_
              refine g_isub (pc' := 107) dX9_rinse_106 rfl ?_
              refine g_callSlp (pc' := 110) (As := [vl (a + (b.tdiv c)), vi (c - (b.tmod c))]) (S := []) dX9_rinse_107 rfl m_X9_200 w_X9_power (c_X9_power_x X M (a + (b.tdiv c)) ⟨by omega, by omega⟩ (c - (b.tmod c)) ⟨by omega, by omega⟩ (by omega) (by omega)) rfl (by decide) (by decide) rfl (Nat.le_of_ble_eq_true rfl) (fun z16 q15 => ?_)
              have hz16 := powR (a := a + (b.tdiv c)) (k := (c - (b.tmod c)).toNat) (by omega) (by omega) (by omega)
              rw [← q15] at hz16
              refine g_iload_n (pc' := 111) 4 dX9_rinse_110 rfl rfl ?_
              refine g_iload (pc' := 113) 2 dX9_rinse_111 rfl rfl ?_
              refine g_iadd (pc' := 114) dX9_rinse_113 rfl ?_
              refine g_iconst (pc' := 115) dX9_rinse_114 rfl ?_
              refine g_iadd (pc' := 116) dX9_rinse_115 rfl ?_
              refine g_i2l (pc' := 117) ⟨by omega, by omega⟩ dX9_rinse_116 rfl ?_
              refine g_iload (pc' := 119) 1 dX9_rinse_117 rfl rfl ?_
              refine g_callSlp (pc' := 122) (As := [vl ((a + (b.tdiv c)) + 1), vi (b.tmod c)]) (S := [vl z16]) dX9_rinse_119 rfl m_X9_200 w_X9_power (c_X9_power_x X M ((a + (b.tdiv c)) + 1) ⟨by omega, by omega⟩ (b.tmod c) ⟨by omega, by omega⟩ (by omega) (by omega)) rfl (by decide) (by decide) rfl (Nat.le_of_ble_eq_true rfl) (fun z18 q17 => ?_)
              have hz18 := powR (a := (a + (b.tdiv c)) + 1) (k := (b.tmod c).toNat) (by omega) (by omega) (by omega)
              rw [← q17] at hz18
              refine g_lmul (pc' := 123) dX9_rinse_122 rfl ?_
              have hpq := powQ (a := a + (b.tdiv c)) (b := (a + (b.tdiv c)) + 1) (p := (c - (b.tmod c)).toNat) (q := (b.tmod c).toNat) (by omega) (by omega) (by omega) (by omega) (by omega)
              rw [← q15, ← q17] at hpq
              refine g_lstore (pc' := 125) (L' := [(9, vl (z16 * z18)), (7, vl z14), (6, vi (b.tmod c)), (5, vi (b.tdiv c)), (0, vr X 0), (1, vi a), (2, vi b), (3, vi c), (4, vi w)]) dX9_rinse_123 rfl (by decide) rfl ?_
              refine g_lload (pc' := 127) 1 dX9_rinse_125 rfl rfl ?_
              refine g_lload (pc' := 129) 0 dX9_rinse_127 rfl rfl ?_
              refine g_iload (pc' := 131) 8 dX9_rinse_129 rfl rfl ?_
              refine g_callSlp (pc' := 134) (As := [vl z14, vl (z16 * z18), vi w]) (S := []) dX9_rinse_131 rfl m_X9_240 w_X9_lowestTerm (c_X9_lowestTerm_x X M z14 ⟨by omega, by omega⟩ (z16 * z18) ⟨by omega, by omega⟩ w hw (by omega) (by omega)) rfl (by decide) (by decide) rfl (Nat.le_of_ble_eq_true rfl) (fun z20 q19 => ?_)
              refine g_lreturn dX9_rinse_134 ?_
              exact ⟨rfl, rinF_q (by omega) (by omega) q13 q15 q17 q19⟩
            · refine g_iload (pc' := 69) 6 dX9_rinse_67 rfl rfl ?_
              refine g_iconst (pc' := 70) dX9_rinse_69 rfl ?_
              refine g_isub (pc' := 71) dX9_rinse_70 rfl ?_
              refine g_iload_n (pc' := 72) 5 dX9_rinse_71 rfl rfl ?_
              refine g_iload (pc' := 74) 0 dX9_rinse_72 rfl rfl ?_
              refine g_isub (pc' := 75) dX9_rinse_74 rfl ?_
              refine g_ic_ge (pc' := 78) (tgt := 84) ⟨by omega, by omega⟩ ⟨by omega, by omega⟩ dX9_rinse_75 rfl rfl (fun c21 => ?_) (fun c21 => ?_)
              · refine g_iload (pc' := 86) 1 dX9_rinse_84 rfl rfl ?_
                refine g_iconst (pc' := 87) dX9_rinse_86 rfl ?_
                refine g_iadd (pc' := 88) dX9_rinse_87 rfl ?_
                refine g_i2l (pc' := 89) ⟨by omega, by omega⟩ dX9_rinse_88 rfl ?_
                refine g_lreturn dX9_rinse_89 ?_
                exact ⟨rfl, by first | rw [rinF_n (by omega)] | (rw [rinF_l (by omega) (by omega) (by omega)]; omega) | (rw [rinF_m (by omega) (by omega) (by omega)]; omega) | rw [rinF_l (by omega) (by omega) (by omega)] | rw [rinF_m (by omega) (by omega) (by omega)]⟩
              · refine g_iload (pc' := 80) 1 dX9_rinse_78 rfl rfl ?_
                refine g_i2l (pc' := 81) ⟨by omega, by omega⟩ dX9_rinse_80 rfl ?_
                refine g_goto (tgt := 89) dX9_rinse_81 rfl ?_
                refine g_lreturn dX9_rinse_89 ?_
                exact ⟨rfl, by first | rw [rinF_n (by omega)] | (rw [rinF_l (by omega) (by omega) (by omega)]; omega) | (rw [rinF_m (by omega) (by omega) (by omega)]; omega) | rw [rinF_l (by omega) (by omega) (by omega)] | rw [rinF_m (by omega) (by omega) (by omega)]⟩
          · replace q9 := q9.resolve_left (fun h => absurd (c11.symm.trans h.1) (by decide))
            refine g_ldc2 (pc' := 50) (v := (-1)) dX9_rinse_47 rfl k_X9_104 ?_
            refine g_lreturn dX9_rinse_50 ?_
            exact ⟨rfl, by first | rw [rinF_n (by omega)] | (rw [rinF_l (by omega) (by omega) (by omega)]; omega) | (rw [rinF_m (by omega) (by omega) (by omega)]; omega) | rw [rinF_l (by omega) (by omega) (by omega)] | rw [rinF_m (by omega) (by omega) (by omega)]⟩
    · replace q4 := q4.resolve_left (fun h => absurd (c6.symm.trans h.1) (by decide))
      refine g_ldc2 (pc' := 23) (v := (-1)) dX9_rinse_20 rfl k_X9_104 ?_
      refine g_lreturn dX9_rinse_23 ?_
      exact ⟨rfl, by first | rw [rinF_n (by omega)] | (rw [rinF_l (by omega) (by omega) (by omega)]; omega) | (rw [rinF_m (by omega) (by omega) (by omega)]; omega) | rw [rinF_l (by omega) (by omega) (by omega)] | rw [rinF_m (by omega) (by omega) (by omega)]⟩
set_option maxHeartbeats 4000000 in
set_option maxRecDepth 100000 in
theorem c_X10_rinse_x (X : Cx) (M : Mm) (hi : IM M) (a : Int) (ha : inI a) (b : Int) (hb : inI b) (c : Int) (hc : inI c) (e : Int) (he : inI e) : Con X 12 yX10_rinse cX10_rinse 8 (some .long) [vr X 97, vi a, vi b, vi c, vi e] M (Ql (fun r M1 => IM M1 ∧ Fr (fun c => 97 ≤ c ∧ c ≤ 116) M M1 ∧ M1 99 0 = M 99 0 ∧ M1 99 1 = M 99 1 ∧ M1 99 2 = M 99 2 ∧ M1 99 3 = M 99 3 ∧ M1 100 0 = M 100 0 ∧ M1 100 1 = M 100 1 ∧ M1 100 2 = M 100 2 ∧ M1 100 3 = M 100 3 ∧ M1 100 49 = M 100 49 ∧ M1 100 50 = M 100 50 ∧ M1 100 51 = M 100 51 ∧ M1 100 52 = M 100 52 ∧ M1 103 0 = M 103 0 ∧ M1 103 1 = M 103 1 ∧ M1 97 12 = M 97 12 ∧ (r = rinF a b c e))) := by
  refine Con.ofG rfl (Nat.le_of_ble_eq_true rfl) ?_
  show G X 12 RX10 cX10_rinse 8 (some .long) (Ql (fun r M1 => IM M1 ∧ Fr (fun c => 97 ≤ c ∧ c ≤ 116) M M1 ∧ M1 99 0 = M 99 0 ∧ M1 99 1 = M 99 1 ∧ M1 99 2 = M 99 2 ∧ M1 99 3 = M 99 3 ∧ M1 100 0 = M 100 0 ∧ M1 100 1 = M 100 1 ∧ M1 100 2 = M 100 2 ∧ M1 100 3 = M 100 3 ∧ M1 100 49 = M 100 49 ∧ M1 100 50 = M 100 50 ∧ M1 100 51 = M 100 51 ∧ M1 100 52 = M 100 52 ∧ M1 103 0 = M 103 0 ∧ M1 103 1 = M 103 1 ∧ M1 97 12 = M 97 12 ∧ (r = rinF a b c e))) 0 [(0, vr X 97), (1, vi a), (2, vi b), (3, vi c), (4, vi e)] [] M
  have p0 := hi.1.1
  have p1 := hi.1.2.1
  have p2 := hi.1.2.2.1
  have p3 := hi.1.2.2.2.1
  have p12 := hi.2.2.2.1
  refine g_aload_n (pc' := 1) 0 dX10_rinse_0 rfl rfl ?_
  refine g_iconst (pc' := 2) dX10_rinse_1 rfl ?_
  refine g_putI (pc' := 5) dX10_rinse_2 rfl p_X10_77 rfl rfl (by decide) (fun M1 hM1 => ?_)
  have iM1 : IM M1 := IM.wr hi hM1 (by unfold okv; first | decide | omega)
  have fM1 : Fr (fun c => 97 ≤ c ∧ c ≤ 116) M M1 := Fr.wr Fr.rf hM1 (by first | decide | omega | (dsimp only; omega))
  have q99_0_M1 : (M1 99 0 = M 99 0) := (show M1 99 0 = M 99 0 by rw [hM1]; exact mu_ne _ _ (by first | decide | omega))
  have q99_1_M1 : (M1 99 1 = M 99 1) := (show M1 99 1 = M 99 1 by rw [hM1]; exact mu_ne _ _ (by first | decide | omega))
  have q99_2_M1 : (M1 99 2 = M 99 2) := (show M1 99 2 = M 99 2 by rw [hM1]; exact mu_ne _ _ (by first | decide | omega))
  have q99_3_M1 : (M1 99 3 = M 99 3) := (show M1 99 3 = M 99 3 by rw [hM1]; exact mu_ne _ _ (by first | decide | omega))
  have q100_0_M1 : id (M1 100 0 = M 100 0) := (show M1 100 0 = M 100 0 by rw [hM1]; exact mu_ne _ _ (by first | decide | omega))
  have q100_1_M1 : id (M1 100 1 = M 100 1) := (show M1 100 1 = M 100 1 by rw [hM1]; exact mu_ne _ _ (by first | decide | omega))
  have q100_2_M1 : id (M1 100 2 = M 100 2) := (show M1 100 2 = M 100 2 by rw [hM1]; exact mu_ne _ _ (by first | decide | omega))
  have q100_3_M1 : id (M1 100 3 = M 100 3) := (show M1 100 3 = M 100 3 by rw [hM1]; exact mu_ne _ _ (by first | decide | omega))
  have q100_49_M1 : id (M1 100 49 = M 100 49) := (show M1 100 49 = M 100 49 by rw [hM1]; exact mu_ne _ _ (by first | decide | omega))
  have q100_50_M1 : id (M1 100 50 = M 100 50) := (show M1 100 50 = M 100 50 by rw [hM1]; exact mu_ne _ _ (by first | decide | omega))
  have q100_51_M1 : id (M1 100 51 = M 100 51) := (show M1 100 51 = M 100 51 by rw [hM1]; exact mu_ne _ _ (by first | decide | omega))
  have q100_52_M1 : id (M1 100 52 = M 100 52) := (show M1 100 52 = M 100 52 by rw [hM1]; exact mu_ne _ _ (by first | decide | omega))
  have q103_0_M1 : id (M1 103 0 = M 103 0) := (show M1 103 0 = M 103 0 by rw [hM1]; exact mu_ne _ _ (by first | decide | omega))
  have q103_1_M1 : id (M1 103 1 = M 103 1) := (show M1 103 1 = M 103 1 by rw [hM1]; exact mu_ne _ _ (by first | decide | omega))
  have q97_12_M1 : (M1 97 12 = M 97 12) := (show M1 97 12 = M 97 12 by rw [hM1]; exact mu_ne _ _ (by first | decide | omega))
  have xM1_97_0 : M1 97 0 = 0 := by rw [hM1]; exact mu_at _ _ _ _
  refine g_iload_n (pc' := 6) 1 dX10_rinse_5 rfl rfl ?_
  refine g_i2l (pc' := 7) ha dX10_rinse_6 rfl ?_
  refine g_lconst (pc' := 8) (v := 1) dX10_rinse_7 rfl (by decide) ?_
  refine g_ldc2 (pc' := 11) (v := 9) dX10_rinse_8 rfl k_X10_380 ?_
  refine g_callSip (pc' := 14) (As := [vl a, vl 1, vl 9]) (S := []) dX10_rinse_11 rfl m_X10_83 w_X10_in (c_X10_in X M1 a ⟨by omega, by omega⟩ 1 (by decide) 9 (by decide)) rfl (by decide) (by decide) rfl (Nat.le_of_ble_eq_true rfl) (fun z3 q2 => ?_)
  refine g_if_eq (pc' := 17) (tgt := 55) ⟨by omega, by omega⟩ dX10_rinse_14 rfl rfl (fun c4 => ?_) (fun c4 => ?_)
  · replace q2 := q2.resolve_left (fun h => absurd (c4.symm.trans h.1) (by decide))
    refine g_ldc2 (pc' := 58) (v := (-1)) dX10_rinse_55 rfl k_X10_108 ?_
    refine g_lreturn dX10_rinse_58 ?_
    exact ⟨iM1, fM1, q99_0_M1, q99_1_M1, q99_2_M1, q99_3_M1, q100_0_M1, q100_1_M1, q100_2_M1, q100_3_M1, q100_49_M1, q100_50_M1, q100_51_M1, q100_52_M1, q103_0_M1, q103_1_M1, q97_12_M1, by first | rw [rinF_n (by omega)] | (rw [rinF_l (by omega) (by omega) (by omega)]; omega) | (rw [rinF_m (by omega) (by omega) (by omega)]; omega) | rw [rinF_l (by omega) (by omega) (by omega)] | rw [rinF_m (by omega) (by omega) (by omega)]⟩
  · replace q2 := q2.resolve_right (fun h => c4 h.1)
    refine g_iload_n (pc' := 18) 2 dX10_rinse_17 rfl rfl ?_
    refine g_i2l (pc' := 19) hb dX10_rinse_18 rfl ?_
    refine g_lconst (pc' := 20) (v := 0) dX10_rinse_19 rfl (by decide) ?_
    refine g_ldc2 (pc' := 23) (v := 60) dX10_rinse_20 rfl k_X10_93 ?_
    refine g_callSip (pc' := 26) (As := [vl b, vl 0, vl 60]) (S := []) dX10_rinse_23 rfl m_X10_83 w_X10_in (c_X10_in X M1 b ⟨by omega, by omega⟩ 0 (by decide) 60 (by decide)) rfl (by decide) (by decide) rfl (Nat.le_of_ble_eq_true rfl) (fun z6 q5 => ?_)
    refine g_if_eq (pc' := 29) (tgt := 55) ⟨by omega, by omega⟩ dX10_rinse_26 rfl rfl (fun c7 => ?_) (fun c7 => ?_)
    · replace q5 := q5.resolve_left (fun h => absurd (c7.symm.trans h.1) (by decide))
      refine g_ldc2 (pc' := 58) (v := (-1)) dX10_rinse_55 rfl k_X10_108 ?_
      refine g_lreturn dX10_rinse_58 ?_
      exact ⟨iM1, fM1, q99_0_M1, q99_1_M1, q99_2_M1, q99_3_M1, q100_0_M1, q100_1_M1, q100_2_M1, q100_3_M1, q100_49_M1, q100_50_M1, q100_51_M1, q100_52_M1, q103_0_M1, q103_1_M1, q97_12_M1, by first | rw [rinF_n (by omega)] | (rw [rinF_l (by omega) (by omega) (by omega)]; omega) | (rw [rinF_m (by omega) (by omega) (by omega)]; omega) | rw [rinF_l (by omega) (by omega) (by omega)] | rw [rinF_m (by omega) (by omega) (by omega)]⟩
    · replace q5 := q5.resolve_right (fun h => c7 h.1)
      refine g_iload_n (pc' := 30) 3 dX10_rinse_29 rfl rfl ?_
      refine g_i2l (pc' := 31) hc dX10_rinse_30 rfl ?_
      refine g_lconst (pc' := 32) (v := 1) dX10_rinse_31 rfl (by decide) ?_
      refine g_ldc2 (pc' := 35) (v := 6) dX10_rinse_32 rfl k_X10_335 ?_
      refine g_callSip (pc' := 38) (As := [vl c, vl 1, vl 6]) (S := []) dX10_rinse_35 rfl m_X10_83 w_X10_in (c_X10_in X M1 c ⟨by omega, by omega⟩ 1 (by decide) 6 (by decide)) rfl (by decide) (by decide) rfl (Nat.le_of_ble_eq_true rfl) (fun z9 q8 => ?_)
      refine g_if_eq (pc' := 41) (tgt := 55) ⟨by omega, by omega⟩ dX10_rinse_38 rfl rfl (fun c10 => ?_) (fun c10 => ?_)
      · replace q8 := q8.resolve_left (fun h => absurd (c10.symm.trans h.1) (by decide))
        refine g_ldc2 (pc' := 58) (v := (-1)) dX10_rinse_55 rfl k_X10_108 ?_
        refine g_lreturn dX10_rinse_58 ?_
        exact ⟨iM1, fM1, q99_0_M1, q99_1_M1, q99_2_M1, q99_3_M1, q100_0_M1, q100_1_M1, q100_2_M1, q100_3_M1, q100_49_M1, q100_50_M1, q100_51_M1, q100_52_M1, q103_0_M1, q103_1_M1, q97_12_M1, by first | rw [rinF_n (by omega)] | (rw [rinF_l (by omega) (by omega) (by omega)]; omega) | (rw [rinF_m (by omega) (by omega) (by omega)]; omega) | rw [rinF_l (by omega) (by omega) (by omega)] | rw [rinF_m (by omega) (by omega) (by omega)]⟩
      · replace q8 := q8.resolve_right (fun h => c10 h.1)
        refine g_iload (pc' := 43) 4 dX10_rinse_41 rfl rfl ?_
        refine g_i2l (pc' := 44) he dX10_rinse_43 rfl ?_
        refine g_lconst (pc' := 45) (v := 0) dX10_rinse_44 rfl (by decide) ?_
        refine g_lconst (pc' := 46) (v := 1) dX10_rinse_45 rfl (by decide) ?_
        refine g_iload_n (pc' := 47) 3 dX10_rinse_46 rfl rfl ?_
        refine g_i2l (pc' := 48) hc dX10_rinse_47 rfl ?_
        refine g_ladd (pc' := 49) dX10_rinse_48 rfl ?_
        refine g_callSip (pc' := 52) (As := [vl e, vl 0, vl (1 + c)]) (S := []) dX10_rinse_49 rfl m_X10_83 w_X10_in (c_X10_in X M1 e ⟨by omega, by omega⟩ 0 (by decide) (1 + c) ⟨by omega, by omega⟩) rfl (by decide) (by decide) rfl (Nat.le_of_ble_eq_true rfl) (fun z12 q11 => ?_)
        refine g_if_ne (pc' := 55) (tgt := 59) ⟨by omega, by omega⟩ dX10_rinse_52 rfl rfl (fun c13 => ?_) (fun c13 => ?_)
        · replace q11 := q11.resolve_right (fun h => c13 h.1)
          refine g_iload_n (pc' := 60) 3 dX10_rinse_59 rfl rfl ?_
          refine g_iload_n (pc' := 61) 2 dX10_rinse_60 rfl rfl ?_
          refine g_iload_n (pc' := 62) 3 dX10_rinse_61 rfl rfl ?_
          have hw1 := tmr (x := b) (k := c) (by omega) (by omega)
          have hw2 := tdr (x := b) (k := c) (by omega) (by omega)
          refine g_irem (pc' := 63) hb hc (by omega) dX10_rinse_62 rfl ?_
          refine g_isub (pc' := 64) dX10_rinse_63 rfl ?_
          refine g_istore (pc' := 66) (L' := [(5, vi (c - (b.tmod c))), (0, vr X 97), (1, vi a), (2, vi b), (3, vi c), (4, vi e)]) dX10_rinse_64 rfl (by decide) rfl ?_
          refine g_iload (pc' := 68) 5 dX10_rinse_66 rfl rfl ?_
          refine g_iconst (pc' := 69) dX10_rinse_68 rfl ?_
          refine g_ic_le (pc' := 72) (tgt := 92) he (by decide) dX10_rinse_69 rfl rfl (fun c14 => ?_) (fun c14 => ?_)
          · refine g_iload_n (pc' := 93) 2 dX10_rinse_92 rfl rfl ?_
            refine g_iload_n (pc' := 94) 3 dX10_rinse_93 rfl rfl ?_
            refine g_iload_n (pc' := 95) 4 dX10_rinse_94 rfl rfl ?_
            refine g_idiv (pc' := 96) hb hc (by omega) dX10_rinse_95 rfl ?_
            refine g_iadd (pc' := 97) dX10_rinse_96 rfl ?_
            refine g_i2l (pc' := 98) ⟨by omega, by omega⟩ dX10_rinse_97 rfl ?_
            refine g_iload (pc' := 100) 0 dX10_rinse_98 rfl rfl ?_
            refine g_callSlp (pc' := 103) (As := [vl (a + (b.tdiv c)), vi (c - (b.tmod c))]) (S := []) dX10_rinse_100 rfl m_X10_337 w_X10_power (c_X10_power X M1 (a + (b.tdiv c)) ⟨by omega, by omega⟩ (c - (b.tmod c)) ⟨by omega, by omega⟩ (by omega) (by omega)) rfl (by decide) (by decide) rfl (Nat.le_of_ble_eq_true rfl) (fun z16 q15 => ?_)
            have hz16 := powR (a := a + (b.tdiv c)) (k := (c - (b.tmod c)).toNat) (by omega) (by omega) (by omega)
            rw [← q15] at hz16
            refine g_iload_n (pc' := 104) 2 dX10_rinse_103 rfl rfl ?_
            refine g_iload_n (pc' := 105) 3 dX10_rinse_104 rfl rfl ?_
            refine g_iload_n (pc' := 106) 4 dX10_rinse_105 rfl rfl ?_
            refine g_idiv (pc' := 107) hb hc (by omega) dX10_rinse_106 rfl ?_
            refine g_iadd (pc' := 108) dX10_rinse_107 rfl ?_
            refine g_iconst (pc' := 109) dX10_rinse_108 rfl ?_
            refine g_iadd (pc' := 110) dX10_rinse_109 rfl ?_
            refine g_i2l (pc' := 111) ⟨by omega, by omega⟩ dX10_rinse_110 rfl ?_
            refine g_iload_n (pc' := 112) 4 dX10_rinse_111 rfl rfl ?_
            refine g_iload (pc' := 114) 0 dX10_rinse_112 rfl rfl ?_
            refine g_isub (pc' := 115) dX10_rinse_114 rfl ?_
            refine g_callSlp (pc' := 118) (As := [vl ((a + (b.tdiv c)) + 1), vi (c - (c - (b.tmod c)))]) (S := [vl z16]) dX10_rinse_115 rfl m_X10_337 w_X10_power (c_X10_power X M1 ((a + (b.tdiv c)) + 1) ⟨by omega, by omega⟩ (c - (c - (b.tmod c))) ⟨by omega, by omega⟩ (by omega) (by omega)) rfl (by decide) (by decide) rfl (Nat.le_of_ble_eq_true rfl) (fun z18 q17 => ?_)
            have hz18 := powR (a := (a + (b.tdiv c)) + 1) (k := (c - (c - (b.tmod c))).toNat) (by omega) (by omega) (by omega)
            rw [← q17] at hz18
            refine g_lmul (pc' := 119) dX10_rinse_118 rfl ?_
            have hpq := powQ (a := a + (b.tdiv c)) (b := (a + (b.tdiv c)) + 1) (p := (c - (b.tmod c)).toNat) (q := (c - (c - (b.tmod c))).toNat) (by omega) (by omega) (by omega) (by omega) (by omega)
            rw [← q15, ← q17] at hpq
            refine g_lstore (pc' := 121) (L' := [(6, vl (z16 * z18)), (5, vi (c - (b.tmod c))), (0, vr X 97), (1, vi a), (2, vi b), (3, vi c), (4, vi e)]) dX10_rinse_119 rfl (by decide) rfl ?_
            rw [show c - (c - b.tmod c) = b.tmod c by omega] at q17
            refine g_iload_n (pc' := 122) 3 dX10_rinse_121 rfl rfl ?_
            refine g_i2l (pc' := 123) ha dX10_rinse_122 rfl ?_
            refine g_iload_n (pc' := 124) 5 dX10_rinse_123 rfl rfl ?_
            refine g_callSlp (pc' := 127) (As := [vl a, vi c]) (S := []) dX10_rinse_124 rfl m_X10_337 w_X10_power (c_X10_power X M1 a ⟨by omega, by omega⟩ c hc (by omega) (by omega)) rfl (by decide) (by decide) rfl (Nat.le_of_ble_eq_true rfl) (fun z20 q19 => ?_)
            have hz20 := powR (a := a) (k := (c).toNat) (by omega) (by omega) (by omega)
            rw [← q19] at hz20
            refine g_lload (pc' := 129) 0 dX10_rinse_127 rfl rfl ?_
            refine g_iload (pc' := 131) 6 dX10_rinse_129 rfl rfl ?_
            refine g_callSlp (pc' := 134) (As := [vl z20, vl (z16 * z18), vi e]) (S := []) dX10_rinse_131 rfl m_X10_341 w_X10_lowest (c_X10_lowest_x X M1 z20 ⟨by omega, by omega⟩ (z16 * z18) ⟨by omega, by omega⟩ e he (by omega) (by omega) (by omega)) rfl (by decide) (by decide) rfl (Nat.le_of_ble_eq_true rfl) (fun z22 q21 => ?_)
            refine g_lreturn dX10_rinse_134 ?_
            exact ⟨iM1, fM1, q99_0_M1, q99_1_M1, q99_2_M1, q99_3_M1, q100_0_M1, q100_1_M1, q100_2_M1, q100_3_M1, q100_49_M1, q100_50_M1, q100_51_M1, q100_52_M1, q103_0_M1, q103_1_M1, q97_12_M1, rinF_q (by omega) (by omega) q19 q15 q17 q21⟩
          · refine g_iload_n (pc' := 73) 3 dX10_rinse_72 rfl rfl ?_
            refine g_iload_n (pc' := 74) 4 dX10_rinse_73 rfl rfl ?_
            refine g_idiv (pc' := 75) hb hc (by omega) dX10_rinse_74 rfl ?_
            refine g_iload (pc' := 77) 5 dX10_rinse_75 rfl rfl ?_
            refine g_iconst (pc' := 78) dX10_rinse_77 rfl ?_
            refine g_isub (pc' := 79) dX10_rinse_78 rfl ?_
            refine g_iload (pc' := 81) 0 dX10_rinse_79 rfl rfl ?_
            refine g_ic_ge (pc' := 84) (tgt := 88) ⟨by omega, by omega⟩ ⟨by omega, by omega⟩ dX10_rinse_81 rfl rfl (fun c23 => ?_) (fun c23 => ?_)
            · refine g_iconst (pc' := 89) dX10_rinse_88 rfl ?_
              refine g_iadd (pc' := 90) dX10_rinse_89 rfl ?_
              refine g_i2l (pc' := 91) ⟨by omega, by omega⟩ dX10_rinse_90 rfl ?_
              refine g_lreturn dX10_rinse_91 ?_
              exact ⟨iM1, fM1, q99_0_M1, q99_1_M1, q99_2_M1, q99_3_M1, q100_0_M1, q100_1_M1, q100_2_M1, q100_3_M1, q100_49_M1, q100_50_M1, q100_51_M1, q100_52_M1, q103_0_M1, q103_1_M1, q97_12_M1, by first | rw [rinF_n (by omega)] | (rw [rinF_l (by omega) (by omega) (by omega)]; omega) | (rw [rinF_m (by omega) (by omega) (by omega)]; omega) | rw [rinF_l (by omega) (by omega) (by omega)] | rw [rinF_m (by omega) (by omega) (by omega)]⟩
            · refine g_iconst (pc' := 85) dX10_rinse_84 rfl ?_
              refine g_goto (tgt := 89) dX10_rinse_85 rfl ?_
              refine g_iadd (pc' := 90) dX10_rinse_89 rfl ?_
              refine g_i2l (pc' := 91) ⟨by omega, by omega⟩ dX10_rinse_90 rfl ?_
              refine g_lreturn dX10_rinse_91 ?_
              exact ⟨iM1, fM1, q99_0_M1, q99_1_M1, q99_2_M1, q99_3_M1, q100_0_M1, q100_1_M1, q100_2_M1, q100_3_M1, q100_49_M1, q100_50_M1, q100_51_M1, q100_52_M1, q103_0_M1, q103_1_M1, q97_12_M1, by first | rw [rinF_n (by omega)] | (rw [rinF_l (by omega) (by omega) (by omega)]; omega) | (rw [rinF_m (by omega) (by omega) (by omega)]; omega) | rw [rinF_l (by omega) (by omega) (by omega)] | rw [rinF_m (by omega) (by omega) (by omega)]⟩
        · replace q11 := q11.resolve_left (fun h => absurd (c13.symm.trans h.1) (by decide))
          refine g_ldc2 (pc' := 58) (v := (-1)) dX10_rinse_55 rfl k_X10_108 ?_
          refine g_lreturn dX10_rinse_58 ?_
          exact ⟨iM1, fM1, q99_0_M1, q99_1_M1, q99_2_M1, q99_3_M1, q100_0_M1, q100_1_M1, q100_2_M1, q100_3_M1, q100_49_M1, q100_50_M1, q100_51_M1, q100_52_M1, q103_0_M1, q103_1_M1, q97_12_M1, by first | rw [rinF_n (by omega)] | (rw [rinF_l (by omega) (by omega) (by omega)]; omega) | (rw [rinF_m (by omega) (by omega) (by omega)]; omega) | rw [rinF_l (by omega) (by omega) (by omega)] | rw [rinF_m (by omega) (by omega) (by omega)]⟩
