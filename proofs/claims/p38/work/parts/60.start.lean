def CR (M : Mm) : Prop := M 2 5 = M 99 0 ∧ M 1 2 = M 99 1 ∧ M 1 4 = M 99 2 ∧ M 1 6 = M 99 3 ∧ M 11 5 = M 100 0 ∧ M 10 2 = M 100 1 ∧ M 10 4 = M 100 2 ∧ M 10 6 = M 100 3 ∧ M 20 5 = M 100 49 ∧ M 19 2 = M 100 50 ∧ M 19 4 = M 100 51 ∧ M 19 6 = M 100 52 ∧ M 29 0 = M 103 0 ∧ M 29 1 = M 103 1 ∧ M 31 1 = M 97 12
theorem frD {M M1 : Mm} (f : Fr (fun c => c ≤ 96) M M1) : M1 99 0 = M 99 0 ∧ M1 99 1 = M 99 1 ∧ M1 99 2 = M 99 2 ∧ M1 99 3 = M 99 3 ∧ M1 100 0 = M 100 0 ∧ M1 100 1 = M 100 1 ∧ M1 100 2 = M 100 2 ∧ M1 100 3 = M 100 3 ∧ M1 100 49 = M 100 49 ∧ M1 100 50 = M 100 50 ∧ M1 100 51 = M 100 51 ∧ M1 100 52 = M 100 52 ∧ M1 103 0 = M 103 0 ∧ M1 103 1 = M 103 1 ∧ M1 97 12 = M 97 12 := ⟨congrFun (f 99 (by decide)) 0, congrFun (f 99 (by decide)) 1, congrFun (f 99 (by decide)) 2, congrFun (f 99 (by decide)) 3, congrFun (f 100 (by decide)) 0, congrFun (f 100 (by decide)) 1, congrFun (f 100 (by decide)) 2, congrFun (f 100 (by decide)) 3, congrFun (f 100 (by decide)) 49, congrFun (f 100 (by decide)) 50, congrFun (f 100 (by decide)) 51, congrFun (f 100 (by decide)) 52, congrFun (f 103 (by decide)) 0, congrFun (f 103 (by decide)) 1, congrFun (f 97 (by decide)) 12⟩
theorem frC {M M1 : Mm} (f : Fr (fun c => 97 ≤ c ∧ c ≤ 116) M M1) : M1 2 5 = M 2 5 ∧ M1 1 2 = M 1 2 ∧ M1 1 4 = M 1 4 ∧ M1 1 6 = M 1 6 ∧ M1 11 5 = M 11 5 ∧ M1 10 2 = M 10 2 ∧ M1 10 4 = M 10 4 ∧ M1 10 6 = M 10 6 ∧ M1 20 5 = M 20 5 ∧ M1 19 2 = M 19 2 ∧ M1 19 4 = M 19 4 ∧ M1 19 6 = M 19 6 ∧ M1 29 0 = M 29 0 ∧ M1 29 1 = M 29 1 ∧ M1 31 1 = M 31 1 := ⟨congrFun (f 2 (by decide)) 5, congrFun (f 1 (by decide)) 2, congrFun (f 1 (by decide)) 4, congrFun (f 1 (by decide)) 6, congrFun (f 11 (by decide)) 5, congrFun (f 10 (by decide)) 2, congrFun (f 10 (by decide)) 4, congrFun (f 10 (by decide)) 6, congrFun (f 20 (by decide)) 5, congrFun (f 19 (by decide)) 2, congrFun (f 19 (by decide)) 4, congrFun (f 19 (by decide)) 6, congrFun (f 29 (by decide)) 0, congrFun (f 29 (by decide)) 1, congrFun (f 31 (by decide)) 1⟩
theorem ICb {M : Mm} (h : IC M) : (0 ≤ M 2 5 ∧ M 2 5 ≤ 6) ∧ (0 ≤ M 11 5 ∧ M 11 5 ≤ 6) ∧ (0 ≤ M 20 5 ∧ M 20 5 ≤ 6) ∧ ((0 ≤ M 1 2 ∧ M 1 2 ≤ 3) ∧ (0 ≤ M 1 4 ∧ M 1 4 ≤ 6) ∧ (0 ≤ M 1 6 ∧ M 1 6 ≤ 6)) ∧ ((0 ≤ M 10 2 ∧ M 10 2 ≤ 3) ∧ (0 ≤ M 10 4 ∧ M 10 4 ≤ 6) ∧ (0 ≤ M 10 6 ∧ M 10 6 ≤ 6)) ∧ ((0 ≤ M 19 2 ∧ M 19 2 ≤ 3) ∧ (0 ≤ M 19 4 ∧ M 19 4 ≤ 6) ∧ (0 ≤ M 19 6 ∧ M 19 6 ≤ 6)) ∧ (0 ≤ M 31 1 ∧ M 31 1 ≤ 400) := ⟨⟨(h.1 2 isT_2).1, (h.1 2 isT_2).2.1⟩, ⟨(h.1 11 isT_11).1, (h.1 11 isT_11).2.1⟩, ⟨(h.1 20 isT_20).1, (h.1 20 isT_20).2.1⟩, h.2.1.1, h.2.1.2.1, h.2.1.2.2, h.2.2.1.1⟩
def ex0 : List (List (Nat × Int)) := [[(12, -1), (13, -1)], [], [(2, 5), (3, 6), (4, 1)], [], [], [], [], [], [], [], [], [(2, 14), (3, 15), (4, 1)], [], [], [], [], [], [], [], [], [(2, 23), (3, 24), (4, 1)], [], [], [], [], [], [], [], [], [], [], [], [], [], [], [], [], [], [], [], [], [], [], [], [], [], [], [], [], [], [], [], [], [], [(2, 57), (3, 58), (4, 1)], [], [], [], [], [], [], [], [(2, 65), (3, 66), (4, 1)], [], [], [], [], [(2, 70), (3, 71), (4, 1)], [], [], [], [], [(2, 75), (3, 76), (4, 1)], [], [], [], [], [(2, 80), (3, 81), (4, 1)], [], [], [], [], [], [], [], [], [], [], [], [], [], [(2, 94), (3, 95), (4, 1)], [], [], [], [], [], [(17, -1), (33, -1)], [], [], [], [], [], [], [], [], [], [], [], [], [], [], [], [], [], [], []]
def M0a : List (Nat × Int) → Nat → Int
  | [], _ => 0
  | q :: r, i => if i = q.1 then q.2 else M0a r i
def M0 : Mm := fun c i => if c = 101 then ms (fun _ => 0) 24 1 i else M0a (ex0.getD c []) i
theorem M0a_b : ∀ (r : List (Nat × Int)) (i : Nat), (∀ q ∈ r, -1 ≤ q.2 ∧ q.2 ≤ 200) → -1 ≤ M0a r i ∧ M0a r i ≤ 200
  | [], i, _ => by simp [M0a]
  | q :: r, i, h => by
    unfold M0a
    split
    · exact h q List.mem_cons_self
    · exact M0a_b r i (fun x hx => h x (List.mem_cons_of_mem _ hx))
theorem M0_b (c i : Nat) : -1 ≤ M0 c i ∧ M0 c i ≤ 200 := by
  unfold M0
  split
  · unfold ms; split <;> (try dsimp only) <;> omega
  · refine M0a_b _ i (fun q hq => ?_)
    have h : ∀ r ∈ ex0, ∀ q ∈ r, -1 ≤ q.2 ∧ q.2 ≤ 200 := by decide +kernel
    by_cases hc : c < ex0.length
    · refine h (ex0.getD c []) ?_ q hq
      rw [List.getD_eq_getElem?_getD, List.getElem?_eq_getElem hc]
      exact List.getElem_mem hc
    · rw [List.getD_eq_getElem?_getD, List.getElem?_eq_none (by omega)] at hq
      cases hq
theorem Rg0 : Rg M0 := by
  intro c i
  have h := M0_b c i
  unfold inK
  split
  · exact ⟨by omega, by omega⟩
  · exact ⟨by omega, by omega⟩
  · trivial
theorem M0z {c : Nat} (h : c ≠ 101) (he : ex0.getD c [] = []) (i : Nat) : M0 c i = 0 := by
  unfold M0; rw [if_neg h, he]; rfl
theorem IC0 : IC M0 := by
  refine ⟨fun t ht => ?_, ⟨by unfold okS; decide +kernel, by unfold okS; decide +kernel, by unfold okS; decide +kernel⟩, ⟨by decide +kernel, by decide +kernel, by decide +kernel, fun k hk => ?_⟩, ⟨by decide +kernel, by decide +kernel, fun c h1 h2 => ?_⟩, by decide +kernel⟩
  · rcases ht with rfl | rfl | rfl | rfl | rfl | rfl | rfl | rfl | rfl <;> (unfold okT; decide +kernel)
  · rw [M0z (c := 34) (by decide) rfl, M0z (c := 35) (by decide) rfl, M0z (c := 33) (by decide) rfl]; omega
  · rcases (show c = 41 ∨ c = 42 ∨ c = 43 ∨ c = 44 ∨ c = 45 ∨ c = 46 ∨ c = 47 ∨ c = 48 ∨ c = 49 ∨ c = 50 ∨ c = 51 ∨ c = 52 by omega) with rfl | rfl | rfl | rfl | rfl | rfl | rfl | rfl | rfl | rfl | rfl | rfl <;> decide +kernel
theorem row0 {m : Nat → Int} (h : ∀ i, m i = 0) : rowOK m := by
  refine ⟨by rw [h]; omega, by rw [h]; omega, by rw [h]; omega, by rw [h]; omega, fun i hi => by rw [h]; omega, fun i hi => by rw [h] at hi; omega, fun i hi => by rw [h, h]; omega, fun i hi => by rw [h, h, h]; omega⟩
theorem IM0 : IM M0 := by
  refine ⟨row0 (fun i => M0z (by decide) rfl i), ⟨by decide +kernel, fun k hk => ?_, fun g hg => ⟨0, by omega, ?_⟩⟩, fun k hk hz => absurd (M0z (c := 103) (by decide) rfl k) hz, by decide +kernel, by decide +kernel⟩
  · show 0 ≤ ms (fun _ => 0) 24 1 k
    unfold ms; split <;> (try dsimp only) <;> omega
  · show ms (fun _ => 0) 24 1 _ + ms (fun _ => 0) 24 1 _ + ms (fun _ => 0) 24 1 _ + ms (fun _ => 0) 24 1 _ = _
    rw [ms_ne _ _ (by omega), ms_ne _ _ (by omega), ms_ne _ _ (by omega), ms_ne _ _ (by omega)]; omega
theorem CR0 : CR M0 := by unfold CR; decide +kernel
theorem TV0 {t : Nat} (h2 : M0 t 2 = ((t + 3 : Nat) : Int)) (h3 : M0 t 3 = ((t + 4 : Nat) : Int)) (h5 : M0 t 5 = 0) (h4 : M0 t 4 = 1) : TV M0 t (t + 3) (t + 4) 0 (M0 (t + 3)) 1 (M0 (t + 2)) (M0 (t + 1)) := ⟨⟨h2, h3⟩, Or.inl ⟨rfl, rfl⟩, h5, rfl, h4, rfl, rfl⟩
theorem M0101 (k : Nat) (h : k ≠ 24) : M0 101 k = 0 := by
  show ms (fun _ => 0) 24 1 k = 0
  rw [ms_ne _ _ h]
theorem PUB0 (P F Z z : Nat → Int) : PUB 0 P 1 F Z (M0 101) z := by
  have h24 : M0 101 24 = 1 := by decide +kernel
  refine ⟨⟨by omega, ⟨by omega, fun k hk => by omega, fun g hg => by omega⟩, ⟨fun k _ hk => M0101 k (by omega), by rw [h24]; decide +kernel⟩, IM0.2.1, fun g hg => by omega⟩, h24.symm⟩
theorem GR0 : GR M0 := by
  refine ⟨?_, fun j hj => absurd hj (by rw [M0z (c := 1) (by decide) rfl]; omega), fun q => absurd (M0z (c := 29) (by decide) rfl 0) q, fun q => absurd (M0z (c := 29) (by decide) rfl 1) q, by unfold RFR; decide +kernel, by decide +kernel, ?_⟩
  · unfold G1
    rw [M0z (c := 99) (by decide) rfl]
    exact ⟨5, 6, _, 1, _, _, TV0 (t := 2) (by decide +kernel) (by decide +kernel) (by decide +kernel) (by decide +kernel), PUB0 _ _ _ _⟩
  · have e : M0 97 44 = 0 := by decide +kernel
    refine ⟨M0 101, fun _ => 0, ?_, fun j hj => by omega⟩
    rw [e]
    exact ⟨94, 95, _, 1, _, _, TV0 (t := 91) (by decide +kernel) (by decide +kernel) (by decide +kernel) (by decide +kernel), (PUB0 _ _ _ _).1⟩
def CX (M : Mm) : Prop := CR M ∧ TR M ∧ GR M
theorem CX0 : CX M0 := ⟨CR0, ⟨fun k hk => absurd hk (by rw [M0z (c := 31) (by decide) rfl]; omega), by decide +kernel⟩, GR0⟩
theorem cls_inst : ∀ (ci : Nat) (q : vw_C), cls[ci]? = some q → Cond.instantiable q.1 q.2.2 ∈ tb := by
  intro ci q h
  match ci, h with
  | 0, h => cases h; exact tbm (wl_in2 _ (List.mem_of_getElem? (i := 46) rfl)) rfl
  | 1, h => cases h; exact tbm (wl_in5 _ (List.mem_of_getElem? (i := 42) rfl)) rfl
  | 2, h => cases h; exact tbm (wl_in1 _ (List.mem_of_getElem? (i := 49) rfl)) rfl
  | 3, h => cases h; exact tbm (wl_in4 _ (List.mem_of_getElem? (i := 20) rfl)) rfl
  | 4, h => cases h; exact tbm (wl_in2 _ (List.mem_of_getElem? (i := 39) rfl)) rfl
  | 5, h => cases h; exact tbm (wl_in5 _ (List.mem_of_getElem? (i := 5) rfl)) rfl
  | 6, h => cases h; exact tbm (wl_in0 _ (List.mem_of_getElem? (i := 27) rfl)) rfl
  | 7, h => cases h; exact tbm (wl_in0 _ (List.mem_of_getElem? (i := 33) rfl)) rfl
  | 8, h => cases h; exact tbm (wl_in2 _ (List.mem_of_getElem? (i := 5) rfl)) rfl
  | 9, h => cases h; exact tbm (wl_in0 _ (List.mem_of_getElem? (i := 19) rfl)) rfl
  | 10, h => cases h; exact tbm (wl_in20 _ (List.mem_of_getElem? (i := 48) rfl)) rfl
  | ci + 11, h => simp [cls] at h
theorem ao_X6 : Cond.arrayOver (.object RX6) ∈ lw_tbl := wl_in1 _ (List.mem_of_getElem? (i := 47) rfl)
theorem ao_X0 : Cond.arrayOver (.object RX0) ∈ lw_tbl := wl_in2 _ (List.mem_of_getElem? (i := 45) rfl)
theorem ao_X7 : Cond.arrayOver (.object RX7) ∈ lw_tbl := wl_in5 _ (List.mem_of_getElem? (i := 11) rfl)
theorem st_r0 : Cond.stringRef "WineSpoon$Parser" 63 "spoon" ∈ lw_tbl := wl_in11 _ (List.mem_of_getElem? (i := 36) rfl)
theorem st_r1 : Cond.stringRef "WineSpoon$Parser" 162 "done" ∈ lw_tbl := wl_in13 _ (List.mem_of_getElem? (i := 21) rfl)
theorem st_r2 : Cond.stringRef "WineSpoon$Parser" 164 "full" ∈ lw_tbl := wl_in13 _ (List.mem_of_getElem? (i := 22) rfl)
theorem st_r3 : Cond.stringRef "WineSpoon$Parser" 170 "size" ∈ lw_tbl := wl_in13 _ (List.mem_of_getElem? (i := 27) rfl)
theorem st_r4 : Cond.stringRef "WineSpoon$Parser" 172 "taste" ∈ lw_tbl := wl_in13 _ (List.mem_of_getElem? (i := 28) rfl)
theorem st_r5 : Cond.stringRef "WineSpoon$Parser" 104 "from" ∈ lw_tbl := wl_in13 _ (List.mem_of_getElem? (i := 41) rfl)
theorem st_r6 : Cond.stringRef "WineSpoon$Parser" 108 "to" ∈ lw_tbl := wl_in13 _ (List.mem_of_getElem? (i := 46) rfl)
theorem st_r7 : Cond.stringRef "WineSpoon$Parser" 83 "lick" ∈ lw_tbl := wl_in13 _ (List.mem_of_getElem? (i := 47) rfl)
theorem st_r8 : Cond.stringRef "WineSpoon$Parser" 85 "fill" ∈ lw_tbl := wl_in13 _ (List.mem_of_getElem? (i := 48) rfl)
theorem st_r9 : Cond.stringRef "WineSpoon$Parser" 112 "times" ∈ lw_tbl := wl_in14 _ (List.mem_of_getElem? (i := 3) rfl)
theorem st_r10 : Cond.stringRef "WineSpoon$Parser" 116 "if" ∈ lw_tbl := wl_in14 _ (List.mem_of_getElem? (i := 8) rfl)
theorem st_r11 : Cond.stringRef "WineSpoon$Parser" 141 "not" ∈ lw_tbl := wl_in14 _ (List.mem_of_getElem? (i := 21) rfl)
theorem st_r12 : Cond.stringRef "WineSpoon$Parser" 139 "and" ∈ lw_tbl := wl_in14 _ (List.mem_of_getElem? (i := 26) rfl)
theorem st_r13 : Cond.stringRef "WineSpoon$Parser" 127 "or" ∈ lw_tbl := wl_in14 _ (List.mem_of_getElem? (i := 31) rfl)
theorem z_0 : Cond.laysStatic "java/lang/String" "COMPACT_STRINGS" "Z" ∈ lw_tbl := wl_in12 _ (List.mem_of_getElem? (i := 0) rfl)
theorem z_1 : Cond.initialized "java/lang/String" ∈ lw_tbl := wl_in0 _ (List.mem_of_getElem? (i := 13) rfl)
theorem z_2 : Cond.laysStatic "jdk/internal/util/Preconditions" "SIOOBE_FORMATTER" "Ljava/util/function/BiFunction;" ∈ lw_tbl := wl_in12 _ (List.mem_of_getElem? (i := 16) rfl)
theorem z_3 : Cond.initialized "jdk/internal/util/Preconditions" ∈ lw_tbl := wl_in0 _ (List.mem_of_getElem? (i := 15) rfl)
def tmS (i : Nat) : Term := .string "WineSpoon$Parser" ([63, 162, 164, 170, 172, 104, 108, 83, 85, 112, 116, 141, 139, 127].getD i 0)
set_option maxRecDepth 100000 in
theorem st_el0 {s : State} {args : Array Value} (hs : ∀ c ∈ flatC (Jvm.Cond.and given_1 narrow_1), c.before args s = true) : ∀ j : Nat, j < sLen.getD 0 0 → (Cond.eq (.elem (.field (tmS 0) "java/lang/String" "value" "[B") (.int (Int32.ofNat j))) (.int ((sByt.getD 0 []).getD j 0))).before args s = true := by
  intro j hj
  have hj : j < 5 := hj
  match j, hj with
  | 0, _ => exact hs _ (by decide +kernel)
  | 1, _ => exact hs _ (by decide +kernel)
  | 2, _ => exact hs _ (by decide +kernel)
  | 3, _ => exact hs _ (by decide +kernel)
  | 4, _ => exact hs _ (by decide +kernel)
  | j + 5, hj => exact absurd hj (by omega)
set_option maxRecDepth 100000 in
theorem st_ne0 {s : State} {args : Array Value} (hs : ∀ c ∈ flatC (Jvm.Cond.and given_1 narrow_1), c.before args s = true) : ∀ j : Nat, j < 14 → 0 ≠ j → (Cond.not (Cond.eq (tmS 0) (tmS j))).before args s = true ∨ (Cond.not (Cond.eq (tmS j) (tmS 0))).before args s = true := by
  intro j hj hij
  match j, hj, hij with
  | 0, _, hij => exact absurd rfl hij
  | 1, _, hij => exact Or.inl (hs _ (by decide +kernel))
  | 2, _, hij => exact Or.inl (hs _ (by decide +kernel))
  | 3, _, hij => exact Or.inl (hs _ (by decide +kernel))
  | 4, _, hij => exact Or.inl (hs _ (by decide +kernel))
  | 5, _, hij => exact Or.inl (hs _ (by decide +kernel))
  | 6, _, hij => exact Or.inl (hs _ (by decide +kernel))
  | 7, _, hij => exact Or.inl (hs _ (by decide +kernel))
  | 8, _, hij => exact Or.inl (hs _ (by decide +kernel))
  | 9, _, hij => exact Or.inl (hs _ (by decide +kernel))
  | 10, _, hij => exact Or.inl (hs _ (by decide +kernel))
  | 11, _, hij => exact Or.inl (hs _ (by decide +kernel))
  | 12, _, hij => exact Or.inl (hs _ (by decide +kernel))
  | 13, _, hij => exact Or.inl (hs _ (by decide +kernel))
  | j + 14, hj, _ => exact absurd hj (by omega)
set_option maxRecDepth 100000 in
theorem st_el1 {s : State} {args : Array Value} (hs : ∀ c ∈ flatC (Jvm.Cond.and given_1 narrow_1), c.before args s = true) : ∀ j : Nat, j < sLen.getD 1 0 → (Cond.eq (.elem (.field (tmS 1) "java/lang/String" "value" "[B") (.int (Int32.ofNat j))) (.int ((sByt.getD 1 []).getD j 0))).before args s = true := by
  intro j hj
  have hj : j < 4 := hj
  match j, hj with
  | 0, _ => exact hs _ (by decide +kernel)
  | 1, _ => exact hs _ (by decide +kernel)
  | 2, _ => exact hs _ (by decide +kernel)
  | 3, _ => exact hs _ (by decide +kernel)
  | j + 4, hj => exact absurd hj (by omega)
set_option maxRecDepth 100000 in
theorem st_ne1 {s : State} {args : Array Value} (hs : ∀ c ∈ flatC (Jvm.Cond.and given_1 narrow_1), c.before args s = true) : ∀ j : Nat, j < 14 → 1 ≠ j → (Cond.not (Cond.eq (tmS 1) (tmS j))).before args s = true ∨ (Cond.not (Cond.eq (tmS j) (tmS 1))).before args s = true := by
  intro j hj hij
  match j, hj, hij with
  | 0, _, hij => exact Or.inr (hs _ (by decide +kernel))
  | 1, _, hij => exact absurd rfl hij
  | 2, _, hij => exact Or.inl (hs _ (by decide +kernel))
  | 3, _, hij => exact Or.inl (hs _ (by decide +kernel))
  | 4, _, hij => exact Or.inl (hs _ (by decide +kernel))
  | 5, _, hij => exact Or.inl (hs _ (by decide +kernel))
  | 6, _, hij => exact Or.inl (hs _ (by decide +kernel))
  | 7, _, hij => exact Or.inl (hs _ (by decide +kernel))
  | 8, _, hij => exact Or.inl (hs _ (by decide +kernel))
  | 9, _, hij => exact Or.inl (hs _ (by decide +kernel))
  | 10, _, hij => exact Or.inl (hs _ (by decide +kernel))
  | 11, _, hij => exact Or.inl (hs _ (by decide +kernel))
  | 12, _, hij => exact Or.inl (hs _ (by decide +kernel))
  | 13, _, hij => exact Or.inl (hs _ (by decide +kernel))
  | j + 14, hj, _ => exact absurd hj (by omega)
set_option maxRecDepth 100000 in
theorem st_el2 {s : State} {args : Array Value} (hs : ∀ c ∈ flatC (Jvm.Cond.and given_1 narrow_1), c.before args s = true) : ∀ j : Nat, j < sLen.getD 2 0 → (Cond.eq (.elem (.field (tmS 2) "java/lang/String" "value" "[B") (.int (Int32.ofNat j))) (.int ((sByt.getD 2 []).getD j 0))).before args s = true := by
  intro j hj
  have hj : j < 4 := hj
  match j, hj with
  | 0, _ => exact hs _ (by decide +kernel)
  | 1, _ => exact hs _ (by decide +kernel)
  | 2, _ => exact hs _ (by decide +kernel)
  | 3, _ => exact hs _ (by decide +kernel)
  | j + 4, hj => exact absurd hj (by omega)
set_option maxRecDepth 100000 in
theorem st_ne2 {s : State} {args : Array Value} (hs : ∀ c ∈ flatC (Jvm.Cond.and given_1 narrow_1), c.before args s = true) : ∀ j : Nat, j < 14 → 2 ≠ j → (Cond.not (Cond.eq (tmS 2) (tmS j))).before args s = true ∨ (Cond.not (Cond.eq (tmS j) (tmS 2))).before args s = true := by
  intro j hj hij
  match j, hj, hij with
  | 0, _, hij => exact Or.inr (hs _ (by decide +kernel))
  | 1, _, hij => exact Or.inr (hs _ (by decide +kernel))
  | 2, _, hij => exact absurd rfl hij
  | 3, _, hij => exact Or.inl (hs _ (by decide +kernel))
  | 4, _, hij => exact Or.inl (hs _ (by decide +kernel))
  | 5, _, hij => exact Or.inl (hs _ (by decide +kernel))
  | 6, _, hij => exact Or.inl (hs _ (by decide +kernel))
  | 7, _, hij => exact Or.inl (hs _ (by decide +kernel))
  | 8, _, hij => exact Or.inl (hs _ (by decide +kernel))
  | 9, _, hij => exact Or.inl (hs _ (by decide +kernel))
  | 10, _, hij => exact Or.inl (hs _ (by decide +kernel))
  | 11, _, hij => exact Or.inl (hs _ (by decide +kernel))
  | 12, _, hij => exact Or.inl (hs _ (by decide +kernel))
  | 13, _, hij => exact Or.inl (hs _ (by decide +kernel))
  | j + 14, hj, _ => exact absurd hj (by omega)
set_option maxRecDepth 100000 in
theorem st_el3 {s : State} {args : Array Value} (hs : ∀ c ∈ flatC (Jvm.Cond.and given_1 narrow_1), c.before args s = true) : ∀ j : Nat, j < sLen.getD 3 0 → (Cond.eq (.elem (.field (tmS 3) "java/lang/String" "value" "[B") (.int (Int32.ofNat j))) (.int ((sByt.getD 3 []).getD j 0))).before args s = true := by
  intro j hj
  have hj : j < 4 := hj
  match j, hj with
  | 0, _ => exact hs _ (by decide +kernel)
  | 1, _ => exact hs _ (by decide +kernel)
  | 2, _ => exact hs _ (by decide +kernel)
  | 3, _ => exact hs _ (by decide +kernel)
  | j + 4, hj => exact absurd hj (by omega)
set_option maxRecDepth 100000 in
theorem st_ne3 {s : State} {args : Array Value} (hs : ∀ c ∈ flatC (Jvm.Cond.and given_1 narrow_1), c.before args s = true) : ∀ j : Nat, j < 14 → 3 ≠ j → (Cond.not (Cond.eq (tmS 3) (tmS j))).before args s = true ∨ (Cond.not (Cond.eq (tmS j) (tmS 3))).before args s = true := by
  intro j hj hij
  match j, hj, hij with
  | 0, _, hij => exact Or.inr (hs _ (by decide +kernel))
  | 1, _, hij => exact Or.inr (hs _ (by decide +kernel))
  | 2, _, hij => exact Or.inr (hs _ (by decide +kernel))
  | 3, _, hij => exact absurd rfl hij
  | 4, _, hij => exact Or.inl (hs _ (by decide +kernel))
  | 5, _, hij => exact Or.inl (hs _ (by decide +kernel))
  | 6, _, hij => exact Or.inl (hs _ (by decide +kernel))
  | 7, _, hij => exact Or.inl (hs _ (by decide +kernel))
  | 8, _, hij => exact Or.inl (hs _ (by decide +kernel))
  | 9, _, hij => exact Or.inl (hs _ (by decide +kernel))
  | 10, _, hij => exact Or.inl (hs _ (by decide +kernel))
  | 11, _, hij => exact Or.inl (hs _ (by decide +kernel))
  | 12, _, hij => exact Or.inl (hs _ (by decide +kernel))
  | 13, _, hij => exact Or.inl (hs _ (by decide +kernel))
  | j + 14, hj, _ => exact absurd hj (by omega)
set_option maxRecDepth 100000 in
theorem st_el4 {s : State} {args : Array Value} (hs : ∀ c ∈ flatC (Jvm.Cond.and given_1 narrow_1), c.before args s = true) : ∀ j : Nat, j < sLen.getD 4 0 → (Cond.eq (.elem (.field (tmS 4) "java/lang/String" "value" "[B") (.int (Int32.ofNat j))) (.int ((sByt.getD 4 []).getD j 0))).before args s = true := by
  intro j hj
  have hj : j < 5 := hj
  match j, hj with
  | 0, _ => exact hs _ (by decide +kernel)
  | 1, _ => exact hs _ (by decide +kernel)
  | 2, _ => exact hs _ (by decide +kernel)
  | 3, _ => exact hs _ (by decide +kernel)
  | 4, _ => exact hs _ (by decide +kernel)
  | j + 5, hj => exact absurd hj (by omega)
set_option maxRecDepth 100000 in
theorem st_ne4 {s : State} {args : Array Value} (hs : ∀ c ∈ flatC (Jvm.Cond.and given_1 narrow_1), c.before args s = true) : ∀ j : Nat, j < 14 → 4 ≠ j → (Cond.not (Cond.eq (tmS 4) (tmS j))).before args s = true ∨ (Cond.not (Cond.eq (tmS j) (tmS 4))).before args s = true := by
  intro j hj hij
  match j, hj, hij with
  | 0, _, hij => exact Or.inr (hs _ (by decide +kernel))
  | 1, _, hij => exact Or.inr (hs _ (by decide +kernel))
  | 2, _, hij => exact Or.inr (hs _ (by decide +kernel))
  | 3, _, hij => exact Or.inr (hs _ (by decide +kernel))
  | 4, _, hij => exact absurd rfl hij
  | 5, _, hij => exact Or.inl (hs _ (by decide +kernel))
  | 6, _, hij => exact Or.inl (hs _ (by decide +kernel))
  | 7, _, hij => exact Or.inl (hs _ (by decide +kernel))
  | 8, _, hij => exact Or.inl (hs _ (by decide +kernel))
  | 9, _, hij => exact Or.inl (hs _ (by decide +kernel))
  | 10, _, hij => exact Or.inl (hs _ (by decide +kernel))
  | 11, _, hij => exact Or.inl (hs _ (by decide +kernel))
  | 12, _, hij => exact Or.inl (hs _ (by decide +kernel))
  | 13, _, hij => exact Or.inl (hs _ (by decide +kernel))
  | j + 14, hj, _ => exact absurd hj (by omega)
set_option maxRecDepth 100000 in
theorem st_el5 {s : State} {args : Array Value} (hs : ∀ c ∈ flatC (Jvm.Cond.and given_1 narrow_1), c.before args s = true) : ∀ j : Nat, j < sLen.getD 5 0 → (Cond.eq (.elem (.field (tmS 5) "java/lang/String" "value" "[B") (.int (Int32.ofNat j))) (.int ((sByt.getD 5 []).getD j 0))).before args s = true := by
  intro j hj
  have hj : j < 4 := hj
  match j, hj with
  | 0, _ => exact hs _ (by decide +kernel)
  | 1, _ => exact hs _ (by decide +kernel)
  | 2, _ => exact hs _ (by decide +kernel)
  | 3, _ => exact hs _ (by decide +kernel)
  | j + 4, hj => exact absurd hj (by omega)
set_option maxRecDepth 100000 in
theorem st_ne5 {s : State} {args : Array Value} (hs : ∀ c ∈ flatC (Jvm.Cond.and given_1 narrow_1), c.before args s = true) : ∀ j : Nat, j < 14 → 5 ≠ j → (Cond.not (Cond.eq (tmS 5) (tmS j))).before args s = true ∨ (Cond.not (Cond.eq (tmS j) (tmS 5))).before args s = true := by
  intro j hj hij
  match j, hj, hij with
  | 0, _, hij => exact Or.inr (hs _ (by decide +kernel))
  | 1, _, hij => exact Or.inr (hs _ (by decide +kernel))
  | 2, _, hij => exact Or.inr (hs _ (by decide +kernel))
  | 3, _, hij => exact Or.inr (hs _ (by decide +kernel))
  | 4, _, hij => exact Or.inr (hs _ (by decide +kernel))
  | 5, _, hij => exact absurd rfl hij
  | 6, _, hij => exact Or.inl (hs _ (by decide +kernel))
  | 7, _, hij => exact Or.inl (hs _ (by decide +kernel))
  | 8, _, hij => exact Or.inl (hs _ (by decide +kernel))
  | 9, _, hij => exact Or.inl (hs _ (by decide +kernel))
  | 10, _, hij => exact Or.inl (hs _ (by decide +kernel))
  | 11, _, hij => exact Or.inl (hs _ (by decide +kernel))
  | 12, _, hij => exact Or.inl (hs _ (by decide +kernel))
  | 13, _, hij => exact Or.inl (hs _ (by decide +kernel))
  | j + 14, hj, _ => exact absurd hj (by omega)
set_option maxRecDepth 100000 in
theorem st_el6 {s : State} {args : Array Value} (hs : ∀ c ∈ flatC (Jvm.Cond.and given_1 narrow_1), c.before args s = true) : ∀ j : Nat, j < sLen.getD 6 0 → (Cond.eq (.elem (.field (tmS 6) "java/lang/String" "value" "[B") (.int (Int32.ofNat j))) (.int ((sByt.getD 6 []).getD j 0))).before args s = true := by
  intro j hj
  have hj : j < 2 := hj
  match j, hj with
  | 0, _ => exact hs _ (by decide +kernel)
  | 1, _ => exact hs _ (by decide +kernel)
  | j + 2, hj => exact absurd hj (by omega)
set_option maxRecDepth 100000 in
theorem st_ne6 {s : State} {args : Array Value} (hs : ∀ c ∈ flatC (Jvm.Cond.and given_1 narrow_1), c.before args s = true) : ∀ j : Nat, j < 14 → 6 ≠ j → (Cond.not (Cond.eq (tmS 6) (tmS j))).before args s = true ∨ (Cond.not (Cond.eq (tmS j) (tmS 6))).before args s = true := by
  intro j hj hij
  match j, hj, hij with
  | 0, _, hij => exact Or.inr (hs _ (by decide +kernel))
  | 1, _, hij => exact Or.inr (hs _ (by decide +kernel))
  | 2, _, hij => exact Or.inr (hs _ (by decide +kernel))
  | 3, _, hij => exact Or.inr (hs _ (by decide +kernel))
  | 4, _, hij => exact Or.inr (hs _ (by decide +kernel))
  | 5, _, hij => exact Or.inr (hs _ (by decide +kernel))
  | 6, _, hij => exact absurd rfl hij
  | 7, _, hij => exact Or.inl (hs _ (by decide +kernel))
  | 8, _, hij => exact Or.inl (hs _ (by decide +kernel))
  | 9, _, hij => exact Or.inl (hs _ (by decide +kernel))
  | 10, _, hij => exact Or.inl (hs _ (by decide +kernel))
  | 11, _, hij => exact Or.inl (hs _ (by decide +kernel))
  | 12, _, hij => exact Or.inl (hs _ (by decide +kernel))
  | 13, _, hij => exact Or.inl (hs _ (by decide +kernel))
  | j + 14, hj, _ => exact absurd hj (by omega)
set_option maxRecDepth 100000 in
theorem st_el7 {s : State} {args : Array Value} (hs : ∀ c ∈ flatC (Jvm.Cond.and given_1 narrow_1), c.before args s = true) : ∀ j : Nat, j < sLen.getD 7 0 → (Cond.eq (.elem (.field (tmS 7) "java/lang/String" "value" "[B") (.int (Int32.ofNat j))) (.int ((sByt.getD 7 []).getD j 0))).before args s = true := by
  intro j hj
  have hj : j < 4 := hj
  match j, hj with
  | 0, _ => exact hs _ (by decide +kernel)
  | 1, _ => exact hs _ (by decide +kernel)
  | 2, _ => exact hs _ (by decide +kernel)
  | 3, _ => exact hs _ (by decide +kernel)
  | j + 4, hj => exact absurd hj (by omega)
set_option maxRecDepth 100000 in
theorem st_ne7 {s : State} {args : Array Value} (hs : ∀ c ∈ flatC (Jvm.Cond.and given_1 narrow_1), c.before args s = true) : ∀ j : Nat, j < 14 → 7 ≠ j → (Cond.not (Cond.eq (tmS 7) (tmS j))).before args s = true ∨ (Cond.not (Cond.eq (tmS j) (tmS 7))).before args s = true := by
  intro j hj hij
  match j, hj, hij with
  | 0, _, hij => exact Or.inr (hs _ (by decide +kernel))
  | 1, _, hij => exact Or.inr (hs _ (by decide +kernel))
  | 2, _, hij => exact Or.inr (hs _ (by decide +kernel))
  | 3, _, hij => exact Or.inr (hs _ (by decide +kernel))
  | 4, _, hij => exact Or.inr (hs _ (by decide +kernel))
  | 5, _, hij => exact Or.inr (hs _ (by decide +kernel))
  | 6, _, hij => exact Or.inr (hs _ (by decide +kernel))
  | 7, _, hij => exact absurd rfl hij
  | 8, _, hij => exact Or.inl (hs _ (by decide +kernel))
  | 9, _, hij => exact Or.inl (hs _ (by decide +kernel))
  | 10, _, hij => exact Or.inl (hs _ (by decide +kernel))
  | 11, _, hij => exact Or.inl (hs _ (by decide +kernel))
  | 12, _, hij => exact Or.inl (hs _ (by decide +kernel))
  | 13, _, hij => exact Or.inl (hs _ (by decide +kernel))
  | j + 14, hj, _ => exact absurd hj (by omega)
set_option maxRecDepth 100000 in
theorem st_el8 {s : State} {args : Array Value} (hs : ∀ c ∈ flatC (Jvm.Cond.and given_1 narrow_1), c.before args s = true) : ∀ j : Nat, j < sLen.getD 8 0 → (Cond.eq (.elem (.field (tmS 8) "java/lang/String" "value" "[B") (.int (Int32.ofNat j))) (.int ((sByt.getD 8 []).getD j 0))).before args s = true := by
  intro j hj
  have hj : j < 4 := hj
  match j, hj with
  | 0, _ => exact hs _ (by decide +kernel)
  | 1, _ => exact hs _ (by decide +kernel)
  | 2, _ => exact hs _ (by decide +kernel)
  | 3, _ => exact hs _ (by decide +kernel)
  | j + 4, hj => exact absurd hj (by omega)
set_option maxRecDepth 100000 in
theorem st_ne8 {s : State} {args : Array Value} (hs : ∀ c ∈ flatC (Jvm.Cond.and given_1 narrow_1), c.before args s = true) : ∀ j : Nat, j < 14 → 8 ≠ j → (Cond.not (Cond.eq (tmS 8) (tmS j))).before args s = true ∨ (Cond.not (Cond.eq (tmS j) (tmS 8))).before args s = true := by
  intro j hj hij
  match j, hj, hij with
  | 0, _, hij => exact Or.inr (hs _ (by decide +kernel))
  | 1, _, hij => exact Or.inr (hs _ (by decide +kernel))
  | 2, _, hij => exact Or.inr (hs _ (by decide +kernel))
  | 3, _, hij => exact Or.inr (hs _ (by decide +kernel))
  | 4, _, hij => exact Or.inr (hs _ (by decide +kernel))
  | 5, _, hij => exact Or.inr (hs _ (by decide +kernel))
  | 6, _, hij => exact Or.inr (hs _ (by decide +kernel))
  | 7, _, hij => exact Or.inr (hs _ (by decide +kernel))
  | 8, _, hij => exact absurd rfl hij
  | 9, _, hij => exact Or.inl (hs _ (by decide +kernel))
  | 10, _, hij => exact Or.inl (hs _ (by decide +kernel))
  | 11, _, hij => exact Or.inl (hs _ (by decide +kernel))
  | 12, _, hij => exact Or.inl (hs _ (by decide +kernel))
  | 13, _, hij => exact Or.inl (hs _ (by decide +kernel))
  | j + 14, hj, _ => exact absurd hj (by omega)
set_option maxRecDepth 100000 in
theorem st_el9 {s : State} {args : Array Value} (hs : ∀ c ∈ flatC (Jvm.Cond.and given_1 narrow_1), c.before args s = true) : ∀ j : Nat, j < sLen.getD 9 0 → (Cond.eq (.elem (.field (tmS 9) "java/lang/String" "value" "[B") (.int (Int32.ofNat j))) (.int ((sByt.getD 9 []).getD j 0))).before args s = true := by
  intro j hj
  have hj : j < 5 := hj
  match j, hj with
  | 0, _ => exact hs _ (by decide +kernel)
  | 1, _ => exact hs _ (by decide +kernel)
  | 2, _ => exact hs _ (by decide +kernel)
  | 3, _ => exact hs _ (by decide +kernel)
  | 4, _ => exact hs _ (by decide +kernel)
  | j + 5, hj => exact absurd hj (by omega)
set_option maxRecDepth 100000 in
theorem st_ne9 {s : State} {args : Array Value} (hs : ∀ c ∈ flatC (Jvm.Cond.and given_1 narrow_1), c.before args s = true) : ∀ j : Nat, j < 14 → 9 ≠ j → (Cond.not (Cond.eq (tmS 9) (tmS j))).before args s = true ∨ (Cond.not (Cond.eq (tmS j) (tmS 9))).before args s = true := by
  intro j hj hij
  match j, hj, hij with
  | 0, _, hij => exact Or.inr (hs _ (by decide +kernel))
  | 1, _, hij => exact Or.inr (hs _ (by decide +kernel))
  | 2, _, hij => exact Or.inr (hs _ (by decide +kernel))
  | 3, _, hij => exact Or.inr (hs _ (by decide +kernel))
  | 4, _, hij => exact Or.inr (hs _ (by decide +kernel))
  | 5, _, hij => exact Or.inr (hs _ (by decide +kernel))
  | 6, _, hij => exact Or.inr (hs _ (by decide +kernel))
  | 7, _, hij => exact Or.inr (hs _ (by decide +kernel))
  | 8, _, hij => exact Or.inr (hs _ (by decide +kernel))
  | 9, _, hij => exact absurd rfl hij
  | 10, _, hij => exact Or.inl (hs _ (by decide +kernel))
  | 11, _, hij => exact Or.inl (hs _ (by decide +kernel))
  | 12, _, hij => exact Or.inl (hs _ (by decide +kernel))
  | 13, _, hij => exact Or.inl (hs _ (by decide +kernel))
  | j + 14, hj, _ => exact absurd hj (by omega)
set_option maxRecDepth 100000 in
theorem st_el10 {s : State} {args : Array Value} (hs : ∀ c ∈ flatC (Jvm.Cond.and given_1 narrow_1), c.before args s = true) : ∀ j : Nat, j < sLen.getD 10 0 → (Cond.eq (.elem (.field (tmS 10) "java/lang/String" "value" "[B") (.int (Int32.ofNat j))) (.int ((sByt.getD 10 []).getD j 0))).before args s = true := by
  intro j hj
  have hj : j < 2 := hj
  match j, hj with
  | 0, _ => exact hs _ (by decide +kernel)
  | 1, _ => exact hs _ (by decide +kernel)
  | j + 2, hj => exact absurd hj (by omega)
set_option maxRecDepth 100000 in
theorem st_ne10 {s : State} {args : Array Value} (hs : ∀ c ∈ flatC (Jvm.Cond.and given_1 narrow_1), c.before args s = true) : ∀ j : Nat, j < 14 → 10 ≠ j → (Cond.not (Cond.eq (tmS 10) (tmS j))).before args s = true ∨ (Cond.not (Cond.eq (tmS j) (tmS 10))).before args s = true := by
  intro j hj hij
  match j, hj, hij with
  | 0, _, hij => exact Or.inr (hs _ (by decide +kernel))
  | 1, _, hij => exact Or.inr (hs _ (by decide +kernel))
  | 2, _, hij => exact Or.inr (hs _ (by decide +kernel))
  | 3, _, hij => exact Or.inr (hs _ (by decide +kernel))
  | 4, _, hij => exact Or.inr (hs _ (by decide +kernel))
  | 5, _, hij => exact Or.inr (hs _ (by decide +kernel))
  | 6, _, hij => exact Or.inr (hs _ (by decide +kernel))
  | 7, _, hij => exact Or.inr (hs _ (by decide +kernel))
  | 8, _, hij => exact Or.inr (hs _ (by decide +kernel))
  | 9, _, hij => exact Or.inr (hs _ (by decide +kernel))
  | 10, _, hij => exact absurd rfl hij
  | 11, _, hij => exact Or.inl (hs _ (by decide +kernel))
  | 12, _, hij => exact Or.inl (hs _ (by decide +kernel))
  | 13, _, hij => exact Or.inl (hs _ (by decide +kernel))
  | j + 14, hj, _ => exact absurd hj (by omega)
set_option maxRecDepth 100000 in
theorem st_el11 {s : State} {args : Array Value} (hs : ∀ c ∈ flatC (Jvm.Cond.and given_1 narrow_1), c.before args s = true) : ∀ j : Nat, j < sLen.getD 11 0 → (Cond.eq (.elem (.field (tmS 11) "java/lang/String" "value" "[B") (.int (Int32.ofNat j))) (.int ((sByt.getD 11 []).getD j 0))).before args s = true := by
  intro j hj
  have hj : j < 3 := hj
  match j, hj with
  | 0, _ => exact hs _ (by decide +kernel)
  | 1, _ => exact hs _ (by decide +kernel)
  | 2, _ => exact hs _ (by decide +kernel)
  | j + 3, hj => exact absurd hj (by omega)
set_option maxRecDepth 100000 in
theorem st_ne11 {s : State} {args : Array Value} (hs : ∀ c ∈ flatC (Jvm.Cond.and given_1 narrow_1), c.before args s = true) : ∀ j : Nat, j < 14 → 11 ≠ j → (Cond.not (Cond.eq (tmS 11) (tmS j))).before args s = true ∨ (Cond.not (Cond.eq (tmS j) (tmS 11))).before args s = true := by
  intro j hj hij
  match j, hj, hij with
  | 0, _, hij => exact Or.inr (hs _ (by decide +kernel))
  | 1, _, hij => exact Or.inr (hs _ (by decide +kernel))
  | 2, _, hij => exact Or.inr (hs _ (by decide +kernel))
  | 3, _, hij => exact Or.inr (hs _ (by decide +kernel))
  | 4, _, hij => exact Or.inr (hs _ (by decide +kernel))
  | 5, _, hij => exact Or.inr (hs _ (by decide +kernel))
  | 6, _, hij => exact Or.inr (hs _ (by decide +kernel))
  | 7, _, hij => exact Or.inr (hs _ (by decide +kernel))
  | 8, _, hij => exact Or.inr (hs _ (by decide +kernel))
  | 9, _, hij => exact Or.inr (hs _ (by decide +kernel))
  | 10, _, hij => exact Or.inr (hs _ (by decide +kernel))
  | 11, _, hij => exact absurd rfl hij
  | 12, _, hij => exact Or.inl (hs _ (by decide +kernel))
  | 13, _, hij => exact Or.inl (hs _ (by decide +kernel))
  | j + 14, hj, _ => exact absurd hj (by omega)
set_option maxRecDepth 100000 in
theorem st_el12 {s : State} {args : Array Value} (hs : ∀ c ∈ flatC (Jvm.Cond.and given_1 narrow_1), c.before args s = true) : ∀ j : Nat, j < sLen.getD 12 0 → (Cond.eq (.elem (.field (tmS 12) "java/lang/String" "value" "[B") (.int (Int32.ofNat j))) (.int ((sByt.getD 12 []).getD j 0))).before args s = true := by
  intro j hj
  have hj : j < 3 := hj
  match j, hj with
  | 0, _ => exact hs _ (by decide +kernel)
  | 1, _ => exact hs _ (by decide +kernel)
  | 2, _ => exact hs _ (by decide +kernel)
  | j + 3, hj => exact absurd hj (by omega)
set_option maxRecDepth 100000 in
theorem st_ne12 {s : State} {args : Array Value} (hs : ∀ c ∈ flatC (Jvm.Cond.and given_1 narrow_1), c.before args s = true) : ∀ j : Nat, j < 14 → 12 ≠ j → (Cond.not (Cond.eq (tmS 12) (tmS j))).before args s = true ∨ (Cond.not (Cond.eq (tmS j) (tmS 12))).before args s = true := by
  intro j hj hij
  match j, hj, hij with
  | 0, _, hij => exact Or.inr (hs _ (by decide +kernel))
  | 1, _, hij => exact Or.inr (hs _ (by decide +kernel))
  | 2, _, hij => exact Or.inr (hs _ (by decide +kernel))
  | 3, _, hij => exact Or.inr (hs _ (by decide +kernel))
  | 4, _, hij => exact Or.inr (hs _ (by decide +kernel))
  | 5, _, hij => exact Or.inr (hs _ (by decide +kernel))
  | 6, _, hij => exact Or.inr (hs _ (by decide +kernel))
  | 7, _, hij => exact Or.inr (hs _ (by decide +kernel))
  | 8, _, hij => exact Or.inr (hs _ (by decide +kernel))
  | 9, _, hij => exact Or.inr (hs _ (by decide +kernel))
  | 10, _, hij => exact Or.inr (hs _ (by decide +kernel))
  | 11, _, hij => exact Or.inr (hs _ (by decide +kernel))
  | 12, _, hij => exact absurd rfl hij
  | 13, _, hij => exact Or.inl (hs _ (by decide +kernel))
  | j + 14, hj, _ => exact absurd hj (by omega)
set_option maxRecDepth 100000 in
theorem st_el13 {s : State} {args : Array Value} (hs : ∀ c ∈ flatC (Jvm.Cond.and given_1 narrow_1), c.before args s = true) : ∀ j : Nat, j < sLen.getD 13 0 → (Cond.eq (.elem (.field (tmS 13) "java/lang/String" "value" "[B") (.int (Int32.ofNat j))) (.int ((sByt.getD 13 []).getD j 0))).before args s = true := by
  intro j hj
  have hj : j < 2 := hj
  match j, hj with
  | 0, _ => exact hs _ (by decide +kernel)
  | 1, _ => exact hs _ (by decide +kernel)
  | j + 2, hj => exact absurd hj (by omega)
set_option maxRecDepth 100000 in
theorem st_ne13 {s : State} {args : Array Value} (hs : ∀ c ∈ flatC (Jvm.Cond.and given_1 narrow_1), c.before args s = true) : ∀ j : Nat, j < 14 → 13 ≠ j → (Cond.not (Cond.eq (tmS 13) (tmS j))).before args s = true ∨ (Cond.not (Cond.eq (tmS j) (tmS 13))).before args s = true := by
  intro j hj hij
  match j, hj, hij with
  | 0, _, hij => exact Or.inr (hs _ (by decide +kernel))
  | 1, _, hij => exact Or.inr (hs _ (by decide +kernel))
  | 2, _, hij => exact Or.inr (hs _ (by decide +kernel))
  | 3, _, hij => exact Or.inr (hs _ (by decide +kernel))
  | 4, _, hij => exact Or.inr (hs _ (by decide +kernel))
  | 5, _, hij => exact Or.inr (hs _ (by decide +kernel))
  | 6, _, hij => exact Or.inr (hs _ (by decide +kernel))
  | 7, _, hij => exact Or.inr (hs _ (by decide +kernel))
  | 8, _, hij => exact Or.inr (hs _ (by decide +kernel))
  | 9, _, hij => exact Or.inr (hs _ (by decide +kernel))
  | 10, _, hij => exact Or.inr (hs _ (by decide +kernel))
  | 11, _, hij => exact Or.inr (hs _ (by decide +kernel))
  | 12, _, hij => exact Or.inr (hs _ (by decide +kernel))
  | 13, _, hij => exact absurd rfl hij
  | j + 14, hj, _ => exact absurd hj (by omega)
set_option maxHeartbeats 4000000 in
set_option maxRecDepth 100000 in
theorem str_of {s : State} {args : Array Value} (hts : ∀ w ∈ lw_tbl, w.before args s = true) (hgv : (Jvm.Cond.and given_1 narrow_1).before args s = true) : ∃ sa sb : Nat → Nat, StrA sa sb (fun q => s.heap.size ≤ q) s := by
  have hs := flat_of_before _ hgv
  have hA : ∀ a : Nat, a < s.heap.size → ¬ (fun q => s.heap.size ≤ q) a := fun a h1 h2 => by
    have h3 : s.heap.size ≤ a := h2
    omega
  obtain ⟨sa, sb, h1, h2⟩ := vk_Sof (args := args) (s := s) (N := 14) (tm := tmS) (len := sLen) (byt := sByt) (A := fun q => s.heap.size ≤ q) (by decide +kernel) (fun i hi => by
    match i, hi with
    | 0, _ => exact hs _ (by decide +kernel)
    | 1, _ => exact hs _ (by decide +kernel)
    | 2, _ => exact hs _ (by decide +kernel)
    | 3, _ => exact hs _ (by decide +kernel)
    | 4, _ => exact hs _ (by decide +kernel)
    | 5, _ => exact hs _ (by decide +kernel)
    | 6, _ => exact hs _ (by decide +kernel)
    | 7, _ => exact hs _ (by decide +kernel)
    | 8, _ => exact hs _ (by decide +kernel)
    | 9, _ => exact hs _ (by decide +kernel)
    | 10, _ => exact hs _ (by decide +kernel)
    | 11, _ => exact hs _ (by decide +kernel)
    | 12, _ => exact hs _ (by decide +kernel)
    | 13, _ => exact hs _ (by decide +kernel)
    | i + 14, hi => exact absurd hi (by omega)) (fun i hi => by
    match i, hi with
    | 0, _ => exact hs _ (by decide +kernel)
    | 1, _ => exact hs _ (by decide +kernel)
    | 2, _ => exact hs _ (by decide +kernel)
    | 3, _ => exact hs _ (by decide +kernel)
    | 4, _ => exact hs _ (by decide +kernel)
    | 5, _ => exact hs _ (by decide +kernel)
    | 6, _ => exact hs _ (by decide +kernel)
    | 7, _ => exact hs _ (by decide +kernel)
    | 8, _ => exact hs _ (by decide +kernel)
    | 9, _ => exact hs _ (by decide +kernel)
    | 10, _ => exact hs _ (by decide +kernel)
    | 11, _ => exact hs _ (by decide +kernel)
    | 12, _ => exact hs _ (by decide +kernel)
    | 13, _ => exact hs _ (by decide +kernel)
    | i + 14, hi => exact absurd hi (by omega)) (fun i hi => by
    match i, hi with
    | 0, _ => exact hs _ (by decide +kernel)
    | 1, _ => exact hs _ (by decide +kernel)
    | 2, _ => exact hs _ (by decide +kernel)
    | 3, _ => exact hs _ (by decide +kernel)
    | 4, _ => exact hs _ (by decide +kernel)
    | 5, _ => exact hs _ (by decide +kernel)
    | 6, _ => exact hs _ (by decide +kernel)
    | 7, _ => exact hs _ (by decide +kernel)
    | 8, _ => exact hs _ (by decide +kernel)
    | 9, _ => exact hs _ (by decide +kernel)
    | 10, _ => exact hs _ (by decide +kernel)
    | 11, _ => exact hs _ (by decide +kernel)
    | 12, _ => exact hs _ (by decide +kernel)
    | 13, _ => exact hs _ (by decide +kernel)
    | i + 14, hi => exact absurd hi (by omega)) (fun i hi => by
    match i, hi with
    | 0, _ => exact hs _ (by decide +kernel)
    | 1, _ => exact hs _ (by decide +kernel)
    | 2, _ => exact hs _ (by decide +kernel)
    | 3, _ => exact hs _ (by decide +kernel)
    | 4, _ => exact hs _ (by decide +kernel)
    | 5, _ => exact hs _ (by decide +kernel)
    | 6, _ => exact hs _ (by decide +kernel)
    | 7, _ => exact hs _ (by decide +kernel)
    | 8, _ => exact hs _ (by decide +kernel)
    | 9, _ => exact hs _ (by decide +kernel)
    | 10, _ => exact hs _ (by decide +kernel)
    | 11, _ => exact hs _ (by decide +kernel)
    | 12, _ => exact hs _ (by decide +kernel)
    | 13, _ => exact hs _ (by decide +kernel)
    | i + 14, hi => exact absurd hi (by omega)) (fun i hi j hj => by
    match i, hi with
    | 0, _ => exact st_el0 hs j hj
    | 1, _ => exact st_el1 hs j hj
    | 2, _ => exact st_el2 hs j hj
    | 3, _ => exact st_el3 hs j hj
    | 4, _ => exact st_el4 hs j hj
    | 5, _ => exact st_el5 hs j hj
    | 6, _ => exact st_el6 hs j hj
    | 7, _ => exact st_el7 hs j hj
    | 8, _ => exact st_el8 hs j hj
    | 9, _ => exact st_el9 hs j hj
    | 10, _ => exact st_el10 hs j hj
    | 11, _ => exact st_el11 hs j hj
    | 12, _ => exact st_el12 hs j hj
    | 13, _ => exact st_el13 hs j hj
    | i + 14, hi => exact absurd hi (by omega)) (fun i j hi hj hij => by
    match i, hi with
    | 0, _ => exact st_ne0 hs j hj hij
    | 1, _ => exact st_ne1 hs j hj hij
    | 2, _ => exact st_ne2 hs j hj hij
    | 3, _ => exact st_ne3 hs j hj hij
    | 4, _ => exact st_ne4 hs j hj hij
    | 5, _ => exact st_ne5 hs j hj hij
    | 6, _ => exact st_ne6 hs j hj hij
    | 7, _ => exact st_ne7 hs j hj hij
    | 8, _ => exact st_ne8 hs j hj hij
    | 9, _ => exact st_ne9 hs j hj hij
    | 10, _ => exact st_ne10 hs j hj hij
    | 11, _ => exact st_ne11 hs j hj hij
    | 12, _ => exact st_ne12 hs j hj hij
    | 13, _ => exact st_ne13 hs j hj hij
    | i + 14, hi => exact absurd hi (by omega)) hA
  refine ⟨sa, sb, h1, fun j q hq => ?_, va_Zof (hts _ z_0) (hts _ z_1) (va_eqt (hs _ (by decide +kernel))) hA, va_Zqof (hts _ z_2) (hts _ z_3) (hs _ (by decide +kernel)) hA⟩
  have hj : j < 14 := (List.getElem?_eq_some_iff.mp hq).1
  have h3 := h2 j hj
  match j, hj with
  | 0, _ => cases hq; exact vk_R.of (A := args) (hts _ st_r0) h3
  | 1, _ => cases hq; exact vk_R.of (A := args) (hts _ st_r1) h3
  | 2, _ => cases hq; exact vk_R.of (A := args) (hts _ st_r2) h3
  | 3, _ => cases hq; exact vk_R.of (A := args) (hts _ st_r3) h3
  | 4, _ => cases hq; exact vk_R.of (A := args) (hts _ st_r4) h3
  | 5, _ => cases hq; exact vk_R.of (A := args) (hts _ st_r5) h3
  | 6, _ => cases hq; exact vk_R.of (A := args) (hts _ st_r6) h3
  | 7, _ => cases hq; exact vk_R.of (A := args) (hts _ st_r7) h3
  | 8, _ => cases hq; exact vk_R.of (A := args) (hts _ st_r8) h3
  | 9, _ => cases hq; exact vk_R.of (A := args) (hts _ st_r9) h3
  | 10, _ => cases hq; exact vk_R.of (A := args) (hts _ st_r10) h3
  | 11, _ => cases hq; exact vk_R.of (A := args) (hts _ st_r11) h3
  | 12, _ => cases hq; exact vk_R.of (A := args) (hts _ st_r12) h3
  | 13, _ => cases hq; exact vk_R.of (A := args) (hts _ st_r13) h3
  | j + 14, hj => exact absurd hj (by omega)
