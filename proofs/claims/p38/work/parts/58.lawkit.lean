/-! THE CLAIM OUT OF ONE WALK OF THE LAW'S BODY. Your part is whole_start (and what it stands on); all else here is the same for every law, but numbers. -/
def R_law : String := "WineSpoonLaw"
def lw_P (b : Addr) (xs : List Int32) (args : Array Value) (s : State) : Prop := args = #[.ref b] ∧ s.IntsAt b xs ∧ xs.length ≤ 3584 ∧ (Jvm.Cond.and given_1 narrow_1).before args s = true
def lw_Q (_ : Array Value) (s : State) (o : Outcome) (t : State) : Prop := o = .returned (some (.int 1)) ∧ Framed s o t [] 600000 7302249
def lw_Z (below : List Frame) (a : Array Value) (s : State) : State → Prop := fun t => ∃ o, t.status = .running ∧ Ended t below o ∧ lw_Q a s o t
/-- the law's own end, with 1 on the stack, nothing written that was there before, its room as the claim has it -/
theorem lw_ret {p : Program} {l : Launch} {e : Env} {s : State} {m : MethodId} {below : List Frame} {meth : Method} {c : Code} {b : Nat} (hx : p.tables.exec = Jvm.exec) (hb : c.code = code) (hr : meth.sig.returnType = ret) (hlocks : meth.locks = false) {pc : Nat} {H : Heap} {ls : Array Slot} (hdg : decode code pc = .ok (.ireturn, 1)) : W p l e room_1 s m #[Value.ref b] below meth c H [] 600000 7302249 (lw_Z below #[Value.ref b] s) (F0 m pc ls [.int 1]) := by
  intro T hT X
  obtain ⟨fs, hret, hrun, hended, hW, hframe⟩ := X.leave (v := some (.int 1)) (hlocks := hlocks) (fun h => by rw [hr] at h; cases h)
  have hmeth' : T.vm.method? m = some meth := X.method'
  refine ⟨T.setFrames fs, ?_, .returned (some (.int 1)), hrun, hended, rfl, ⟨_, rfl⟩, hW, hframe⟩
  jvm_step X.here [X.here.top, hx, hb, hdg, hmeth', hr, ret, narrow_b1]
  (try refine ⟨rfl, ?_⟩); (try refine ⟨rfl, ?_⟩)
  first | (intro acts; rw [hret _ acts rfl rfl rfl]) | rw [hret _ _ rfl rfl rfl]
  exact Steps.refl _
/-- what holds at the law's entry: the machine, the code, the tables' words (any of lw_tbl by 'hts w (by decide +kernel)'), the script of L ints xs at the cell b, what the Statement gives of the start (any of its parts by flat_of_before) -/
def lw_At (p : Program) (s : State) (m : MethodId) (meth : Method) (c : Code) (b L : Nat) (xs : Nat → Int32) : Prop :=
  p.tables.exec = Jvm.exec ∧ c.code = code ∧ meth.sig.returnType = ret ∧ c.maxLocals = 4 ∧ s.vm.findClass R_law = some m.cls ∧ (∀ w ∈ lw_tbl, w.before #[Value.ref b] s = true) ∧ va_X b L xs s s.heap ∧ b < s.heap.size ∧ meth.locks = false ∧ (Jvm.Cond.and given_1 narrow_1).before #[Value.ref b] s = true
/-! rows of the law -/
def sx (xs : Nat → Int32) (i : Int) : Int := (xs i.toNat).toInt
theorem sx_in (xs : Nat → Int32) (i : Int) : inI (sx xs i) := inI_toInt _
def StrA (sa sb : Nat → Nat) (A : Nat → Prop) (s : State) : Prop := vk_S 14 sLen sByt sa sb A s s.heap ∧ (∀ (j : Nat) (q : String × Nat × String), sTx[j]? = some q → vk_R q.1 q.2.1 q.2.2 (sa j) s) ∧ va_Z "java/lang/String" "COMPACT_STRINGS" "Z" (.int 1) A s s.heap ∧ va_Zq "jdk/internal/util/Preconditions" "SIOOBE_FORMATTER" "Ljava/util/function/BiFunction;" A s s.heap
theorem StrA.narrow {sa sb : Nat → Nat} {A B : Nat → Prop} {s : State} (h : StrA sa sb A s) (hAB : ∀ q, B q → A q) : StrA sa sb B s := ⟨h.1.narrow hAB, h.2.1, h.2.2.1.narrow hAB, h.2.2.2.narrow hAB⟩
def FL (b L : Nat) (xs : Nat → Int32) (s : State) : Prop := va_X b L xs s s.heap ∧ b < s.heap.size ∧ L ≤ 3584
def ES (D : va_G) (dA : Nat → ClassId) (sa sb : Nat → Nat) (b L : Nat) (xs : Nat → Int32) (ws : va_W) : Ej := fun R s args _ H locs => KK D dA s ∧ va_P D cls ws H ∧ va_D (fun q => s.heap.size ≤ q) ws ∧ va_S (fun q => s.heap.size ≤ q) s.heap H locs ∧ R = room_1 ∧ args = #[.ref b] ∧ FL b L xs s ∧ StrA sa sb (fun q => s.heap.size ≤ q) s
def ELW (X : Cx) (M : Mm) (b L : Nat) (xs : Nat → Int32) : Ej := fun R s args _ H locs => Wo X s ∧ va_P X.2.2.1 cls (wd X M) H ∧ va_S (ax X) s.heap H locs ∧ R = room_1 ∧ args = #[.ref b] ∧ FL b L xs s ∧ ∀ q, ax X q → s.heap.size ≤ q
def Zl : Zj := fun below args s => lw_Z below args s
section LR
variable {X : Cx} {M : Mm} {b L : Nat} {xs : Nat → Int32} {C N : Nat} {pc pc' : Nat} {Lc : List (Nat × Value)} {S : List Value} {l : Launch} {D : va_G} {dA : Nat → ClassId} {sa sb : Nat → Nat} {ws : va_W}
theorem s_new {i ci n : Nat} {q1 : vw_C} {ty : Nat → FieldType} {fs : List Value} {ws' : Nat → va_W} (hd : decode cL_law pc = .ok (.new i, 3)) (hp : pc + 3 = pc') (hq : cls[ci]? = some q1) (hn : q1.2.2 = n) (hty : ∀ k, k < q1.2.2 → parseFieldDescriptor (q1.2.1 k).2.2.1 = some (ty k)) (hlk : Cond.classLink RL i q1.1 ∈ tb) (hin : Cond.instantiable q1.1 q1.2.2 ∈ tb) (hini : Cond.initialized q1.1 ∈ tb) (hfs : ∀ j, j < q1.2.2 → defaultValue (ty j) = vp_V fs j) (hc : C + 1 ≤ 600000) (hs : N + n ≤ 7302249) (hw : ∀ q, ws ++ [(q, .inr (ci, fs))] = ws' q) (kt : ∀ q : Nat, J l RL cL_law 4 ret (ES D dA sa sb b L xs (ws' q)) (C + 1) (N + n) Zl pc' Lc (.ref q :: S)) : J l RL cL_law 4 ret (ES D dA sa sb b L xs ws) C N Zl pc Lc S := by
  subst hp; subst hn
  intro p e R s m args below meth c H locs ls hF hE hl
  obtain ⟨hx, hb, hr, hml, hown, hts, hlo⟩ := id hF
  obtain ⟨hK, hP, hD, hS, hR, ha, hFL, hSt⟩ := id hE
  refine va_new (ci := ci) (fs := fs) (C := q1.1) (T := q1.2.1) (N := q1.2.2) hx hb hts (cls_in ci q1 hq) ty hty hown (hts _ hlk) (hts _ hin) (hts _ hini) hK.1 hP hD hS (fun q h => h) hq hfs (by rw [hR]; exact hc) (by rw [hR]; exact hs) hd (fun q H1 hP1 hD1 hS1 => ?_)
  rw [hw] at hP1 hD1
  exact kt q p e R s m args below meth c H1 locs ls hF ⟨hK, hP1, hD1, hS1, hR, ha, hFL, hSt⟩ hl
theorem s_init {i d1 mc1 ms1 nL1 b1 : Nat} {y : MethodName} {cc1 : ByteArray} {e0 : va_E} {Wf : Nat → (Nat → Nat) → va_W} {wr : va_W} {ws' : (Nat → Nat) → va_W} (hd : decode cL_law pc = .ok (.invokespecial i, 3)) (hp : pc + 3 = pc') (hm : lmI RL i y) (hcode : Cond.code y cc1 nL1 none ∈ tb) (hc : CC l D dA d1 mc1 ms1 y cc1 nL1 e0 Wf) (hr : d1 ≤ 1300) (hnL : nL1 ≤ 45) (hcw : C + mc1 ≤ 600000) (hsw : N + ms1 ≤ 7302249) (hwt : (S.map fun v => v.category).sum ≤ 8) (hws : ws = wr ++ [(b1, e0)]) (hw : ∀ q, wr ++ Wf b1 q = ws' q) (kt : ∀ q : Nat → Nat, J l RL cL_law 4 ret (ES D dA sa sb b L xs (ws' q)) (C + mc1) (N + ms1) Zl pc' Lc S) : J l RL cL_law 4 ret (ES D dA sa sb b L xs ws) C N Zl pc Lc (.ref b1 :: S) := by
  subst hp; subst hws
  intro p e R s m args below meth c H locs ls hF hE hl
  obtain ⟨hx, hb, hret, hml, hown, hts, hlo⟩ := id hF
  obtain ⟨hK, hP, hD, hS, hR, ha, hFL, hSt⟩ := id hE
  obtain ⟨hdd, hini, hlk, hy1, hins⟩ := hm
  have hfree : ∀ q, va_A [(b1, e0)] H.size q → s.heap.size ≤ q := fun q h => by
    rcases h with ⟨k, e, h⟩ | h
    · have h1 : k < 1 := (List.getElem?_eq_some_iff.mp h).1
      rw [show k = 0 by omega] at h
      have h2 : (b1, e0) = (q, e) := Option.some.inj h
      have := hD.2 wr.length (b1, e0) (by simp)
      have h3 : b1 = q := congrArg Prod.fst h2
      rw [← h3]; exact this
    · exact Nat.le_trans hS.1 h
  have hroom : (rmA d1 mc1 ms1).frames + 1 ≤ R.frames ∧ 8 + (nL1 + 11) + (rmA d1 mc1 ms1).locals ≤ R.locals := by
    rw [hR]
    refine ⟨?_, ?_⟩
    · show d1 + 1 ≤ 2048; omega
    · show 8 + (nL1 + 11) + 64 * d1 ≤ 84000; omega
  have hPb : va_P D cls [(b1, e0)] H := fun k q hk => by
    have h1 : k < 1 := (List.getElem?_eq_some_iff.mp hk).1
    rw [show k = 0 by omega] at hk
    cases hk
    exact hP wr.length _ (by simp)
  have hpre : PreS s H (va_Pc [.ref b1] (fun U => U.heap.size = H.size ∧ va_P D cls [(b1, e0)] U.heap ∧ KK D dA U)) (.ref b1 :: []) :=
    ⟨fun a U g mk q => by obtain ⟨q0, q1, qP, qK⟩ := q; exact ⟨q0, q1, qP, qK.calling⟩, fun U hU hW => ⟨rfl, by rw [hU], by rw [hU]; exact hPb, hK.step hW⟩⟩
  have hgo : va_Run p l e R s m args below meth c H locs C N mc1 ms1 (F0 m pc ls (.ref b1 :: S)) S (va_Qv (fun _ : Unit => True) (fun _ t => QW D (va_A [(b1, e0)] H.size) (Wf b1) t.heap) (va_A [(b1, e0)] H.size) [Value.ref b1].toArray) (va_A [(b1, e0)] H.size) := by
    rcases hlk with h | ⟨host, h⟩
    · exact va_runI (As := []) (rest := S) (n := 0) ⟨hx, hb, hml, hown, hts⟩ (hc b1 H.size) ⟨callB_of 0 hts (yw_good hcode) rfl rfl rfl (hts _ hini) (hts _ h) hdd hroom, hy1, hts _ hins⟩ hpre rfl rfl hl.1 rfl (lv_room hwt) hd ⟨by rw [hR]; exact hcw, by rw [hR]; exact hsw⟩
    · exact va_runIN (host := host) (As := []) (rest := S) (n := 0) ⟨hx, hb, hml, hown, hts⟩ (hc b1 H.size) ⟨va_cnB 0 hts (yw_good hcode) rfl rfl rfl (hK.2.1 _ h) (hts _ hini) hdd hroom, hy1, hts _ hins⟩ hpre rfl rfl hl.1 rfl (lv_room hwt) hd ⟨by rw [hR]; exact hcw, by rw [hR]; exact hsw⟩
  refine va_callv hgo hS (fun q _ h => hfree q h) hfree (fun u t H1 locs1 ht hvm _ hB hz hk hS1 => ?_)
  obtain ⟨q, hP1, hD1⟩ := hB
  rw [ht] at hP1
  obtain ⟨hP2, hD2⟩ := va_joinL hP hD hk hfree hP1 hD1
  rw [hw] at hP2 hD2
  exact kt q p e R s m args below meth c H1 locs1 ls hF ⟨hK, hP2, hD2, hS1, hR, ha, hFL, hSt⟩ hl
theorem s_enter {ad : Nat → Nat} (hPP : ∀ H, va_P D cls ws H → va_P D cls (wd (l, ad, D, dA, sa, sb) M) H) (hDD : ∀ A, va_D A ws → va_D A (wd (l, ad, D, dA, sa, sb) M)) (kt : J l RL cL_law 4 ret (ELW (l, ad, D, dA, sa, sb) M b L xs) C N Zl pc Lc S) : J l RL cL_law 4 ret (ES D dA sa sb b L xs ws) C N Zl pc Lc S := by
  intro p e R s m args below meth c H locs ls hF hE hl
  obtain ⟨hK, hP, hD, hS, hR, ha, hFL, hSt⟩ := id hE
  have hD1 := hDD _ hD
  have hap : apart (l, ad, D, dA, sa, sb) := fun c c' d d' h1 h2 he => hD1.1 c c' _ _ (wd_at h1) (wd_at h2) he
  have hax : ∀ q, ax (l, ad, D, dA, sa, sb) q → s.heap.size ≤ q := fun q ⟨c, d, h, e⟩ => by rw [e]; exact hD1.2 c _ (wd_at h)
  refine va_forget (fun q hq => hS.2.2 q hq) ?_
  exact kt p e R s m args below meth c H [] ls hF ⟨⟨hK.1, hap, hK.2.1, hSt.narrow hax⟩, hPP H hP, ⟨hS.1, fun q h1 h2 => hS.2.1 q h1 (by show ¬ s.heap.size ≤ q; omega), fun _ h => by cases h⟩, hR, ha, hFL, hax⟩ hl
theorem w_sld {i : Int} (hd : decode cL_law pc = .ok (.iaload, 1)) (hp : pc + 1 = pc') (h0 : 0 ≤ i) (h1 : i < L) (kt : J X.1 RL cL_law 4 ret (ELW X M b L xs) C N Zl pc' Lc (vi (sx xs i) :: S)) : J X.1 RL cL_law 4 ret (ELW X M b L xs) C N Zl pc Lc (vi i :: .ref b :: S) := by
  subst hp
  intro p e R s m args below meth c H locs ls hF hE hl
  have k' := kt p e R s m args below meth c H locs ls hF hE hl
  obtain ⟨hW, hP, hS, hR, ha, ⟨hX, hbl, hL⟩, hax⟩ := id hE
  obtain ⟨h2, h3⟩ := ix32 h0 h1 (by omega)
  refine va_sld (A := ax X) hF.1 hF.2.1 hX hbl (fun z => by have := hax b z; omega) hS h2 hd ?_
  rw [h3]
  have hv : Value.int (xs i.toNat) = vi (sx xs i) := by unfold vi sx; rw [Int32.ofInt_toInt]
  rw [hv]
  exact k'
theorem w_slen (hd : decode cL_law pc = .ok (.arraylength, 1)) (hp : pc + 1 = pc') (kt : J X.1 RL cL_law 4 ret (ELW X M b L xs) C N Zl pc' Lc (vi (L : Int) :: S)) : J X.1 RL cL_law 4 ret (ELW X M b L xs) C N Zl pc Lc (.ref b :: S) := by
  subst hp
  intro p e R s m args below meth c H locs ls hF hE hl
  have k' := kt p e R s m args below meth c H locs ls hF hE hl
  obtain ⟨hW, hP, hS, hR, ha, ⟨hX, hbl, hL⟩, hax⟩ := id hE
  refine va_slen (A := ax X) hF.1 hF.2.1 hX hbl (fun z => by have := hax b z; omega) hS hd ?_
  have hv : Value.int (Int32.ofNat L) = vi (L : Int) := by unfold vi; rfl
  rw [hv]
  exact k'
theorem w_call {i n d nL' : Nat} (hCC : C + 0 ≤ 600000) (hNN : N + 0 ≤ 7302249) {y : MethodName} {cc' : ByteArray} {ret' : Option FieldType} {As St : List Value} {o : Nat} {Q' : Option Value → Mm → Prop} (hR0 : Rg M) (hd : decode cL_law pc = .ok (.invokevirtual i, 3)) (hp : pc + 3 = pc') (hm : lmV RL i y n) (hcode : Cond.code y cc' nL' ret' ∈ tb) (hc : Con X d y cc' nL' ret' (vr X o :: As) M Q') (hn : As.length = n) (ho : isO o y.cls) (hr : d ≤ 1300) (hnL : nL' ≤ 45) (hst : St = As.reverse ++ vr X o :: S) (hw : (S.map fun v => v.category).sum ≤ 8)
    (kk : ∀ (v : Option Value) (M' : Mm), Q' v M' → Rg M' → J X.1 RL cL_law 4 ret (ELW X M' b L xs) C N Zl pc' Lc (v.toList ++ S)) : J X.1 RL cL_law 4 ret (ELW X M b L xs) C N Zl pc Lc St := by
  subst hp; subst hst
  intro p e R s m args below meth c0 H locs ls hF hE hl
  obtain ⟨hW, hP, hS, hRm, ha, hFL, hax⟩ := id hE
  obtain ⟨⟨hdd, hini, hlk⟩, hins, hsel⟩ := hm
  obtain ⟨ci, ks, q, ho1, ho2, ho3⟩ := ho
  obtain ⟨hx, hb, hret, hml, hown, hts, hlo⟩ := id hF
  have hM := hc hR0
  have hroom : (rmo d).frames + 1 ≤ R.frames ∧ 8 + (nL' + 11) + (rmo d).locals ≤ R.locals := by
    rw [hRm]
    refine ⟨?_, ?_⟩
    · show d + 1 ≤ 2048; omega
    · show 8 + (nL' + 11) + 64 * d ≤ 84000; omega
  have hpre : PreV s H y.cls (X.2.1 o) (va_Pc (vr X o :: As) (fun U => Wo X U ∧ va_P X.2.2.1 cls (wd X M) U.heap)) As :=
    ⟨pc_blind X _ M, by rw [← ho3]; exact va_recv hW.1 hP ho2 (wd_at ho1), fun U hU hWU => ⟨rfl, hW.step hWU (by rw [hU]; exact hS), by rw [hU]; exact hP⟩⟩
  have hrun : va_Run p X.1 e R s m args below meth c0 H locs C N 0 0 (F0 m pc ls (As.reverse ++ vr X o :: S)) S (Qm X Q' (Value.ref (X.2.1 o) :: As).toArray) (ax X) := by
    rcases hlk with h | ⟨host, h⟩
    · exact va_runV (C := y.cls) (n := n) ⟨hx, hb, hml, hown, hts⟩ hM ⟨callB_of n hts (yw_good hcode) rfl rfl rfl (hts _ hini) (hts _ h) hdd hroom, hts _ hins, hts _ hsel⟩ hpre rfl hn hl.1 rfl (lv_room hw) hd ⟨by rw [hRm]; exact hCC, by rw [hRm]; exact hNN⟩
    · exact va_runVN (C := y.cls) (host := host) (n := n) ⟨hx, hb, hml, hown, hts⟩ hM ⟨va_cnB n hts (yw_good hcode) rfl rfl rfl (hW.2.2.1 _ h) (hts _ hini) hdd hroom, hts _ hins, hts _ hsel⟩ hpre rfl hn hl.1 rfl (lv_room hw) hd ⟨by rw [hRm]; exact hCC, by rw [hRm]; exact hNN⟩
  intro T hT X0
  obtain ⟨v, st₀, t, T', L', h0, X', hL, e1, e2, ⟨v', M', hv, hq, hRg, hP', hz, hk⟩, st⟩ := hrun T hT X0
  cases hv
  rw [h0] at hz hk
  have hS1 : va_S (ax X) s.heap T'.heap (locs ++ L') := ⟨Nat.le_trans hS.1 (by rw [e1]; exact hz), fun q h1 h2 => by rw [e1, hk q (Nat.lt_of_lt_of_le h1 hS.1) h2]; exact hS.2.1 q h1 h2, fun q hq => by
      rcases List.mem_append.mp hq with h | h
      · exact hS.2.2 q h
      · exact hL q h⟩
  obtain ⟨t2, a1, b1⟩ := kk v M' hq hRg p e R s m args below meth c0 T'.heap (locs ++ L') ls hF ⟨hW, by rw [e1]; exact hP', hS1, hRm, ha, hFL, hax⟩ hl T' rfl X'
  exact ⟨t2, st t2 a1, b1⟩
theorem w_ret (hd : decode cL_law pc = .ok (.ireturn, 1)) (hC : C ≤ 600000) (hN : N ≤ 7302249) : J X.1 RL cL_law 4 ret (ELW X M b L xs) C N Zl pc Lc [vi 1] := by
  intro p e R s m args below meth c H locs ls hF hE hl
  obtain ⟨hW, hP, hS, hR, ha, hFL, hax⟩ := id hE
  subst hR; subst ha
  refine va_forget (fun q hq => hax _ (hS.2.2 q hq)) ?_
  refine W.widen (k := 600000) (n := 7302249) hC hN ?_
  exact lw_ret hF.1 hF.2.1 hF.2.2.1 hF.2.2.2.2.2.2 hd
theorem j_pop2 {l : Launch} {own : String} {cc : ByteArray} {nL : Nat} {ret : Option FieldType} {E : Ej} {Z : Zj} {a : Value} (hd : decode cc pc = .ok (.pop2, 1)) (hp : pc + 1 = pc') (ha : a.category = 2) (k : J l own cc nL ret E C N Z pc' Lc S) : J l own cc nL ret E C N Z pc Lc (a :: S) := by
  subst hp
  intro p e R s m args below meth c H locs ls hF hE hl
  refine lv_pop2_2 hF.1 hF.2.1 hd ha ?_
  exact k p e R s m args below meth c H locs ls hF hE hl
theorem j_tabIn {l : Launch} {own : String} {cc : ByteArray} {nL : Nat} {ret : Option FieldType} {E : Ej} {Z : Zj} {dflt lo hi off : Int} {offs : Array Int} {len tgt : Nat} {x : Int} (hx : inI x) (hd : decode cc pc = .ok (.tableswitch dflt lo hi offs, len)) (h1 : lo ≤ x) (h2 : x ≤ hi) (ho : offs[(x - lo).toNat]? = some off) (ht : (pc : Int) + off = (tgt : Int)) (kt : J l own cc nL ret E C N Z tgt Lc S) : J l own cc nL ret E C N Z pc Lc (vi x :: S) := by
  intro p e R s m args below meth c H locs ls hF hE hl
  have k' := kt p e R s m args below meth c H locs ls hF hE hl
  exact lv_tableIn hF.1 hF.2.1 hd (by rw [t32 hx]; omega) (by rw [t32 hx]; omega) (by rw [t32 hx]; exact ho) ht k'
theorem j_tabOut {l : Launch} {own : String} {cc : ByteArray} {nL : Nat} {ret : Option FieldType} {E : Ej} {Z : Zj} {dflt lo hi : Int} {offs : Array Int} {len tgt : Nat} {x : Int} (hx : inI x) (hd : decode cc pc = .ok (.tableswitch dflt lo hi offs, len)) (h : x < lo ∨ hi < x) (ht : (pc : Int) + dflt = (tgt : Int)) (kt : J l own cc nL ret E C N Z tgt Lc S) : J l own cc nL ret E C N Z pc Lc (vi x :: S) := by
  intro p e R s m args below meth c H locs ls hF hE hl
  have k' := kt p e R s m args below meth c H locs ls hF hE hl
  exact lv_tableOut hF.1 hF.2.1 hd (by rw [t32 hx]; exact h) ht k'
end LR
theorem ad_D {A : Nat → Prop} {ws ws' : va_W} (h : va_D A ws) (e : ws'.map Prod.fst = ws.map Prod.fst) : va_D A ws' := by
  have g : ∀ (k : Nat) (q : Nat × va_E), ws'[k]? = some q → ∃ q', ws[k]? = some q' ∧ q'.1 = q.1 := by
    intro k q hq
    have h1 : (ws'.map Prod.fst)[k]? = some q.1 := by rw [List.getElem?_map, hq]; rfl
    rw [e, List.getElem?_map] at h1
    cases hk : ws[k]? with
    | none => rw [hk] at h1; cases h1
    | some q' => rw [hk] at h1; exact ⟨q', rfl, Option.some.inj h1⟩
  refine ⟨fun i j p q hi hj hpq => ?_, fun k q hk => ?_⟩
  · obtain ⟨p', a1, a2⟩ := g i p hi
    obtain ⟨q', b1, b2⟩ := g j q hj
    exact h.1 i j p' q' a1 b1 (by rw [a2, b2]; exact hpq)
  · obtain ⟨q', a1, a2⟩ := g k q hk
    rw [← a2]; exact h.2 k q' a1
theorem va_P_re {D : va_G} {cl : List vw_C} {ws : va_W} {H : Heap} {a n : Nat} {cA : ClassId} {f g : Nat → Option Nat} (k : Nat) (h : va_P D cl ws H) (hk : ws[k]? = some (a, .inl (cA, n, .inr (.inr (.inr (.inr f)))))) (hfg : ∀ j, j < n → f j = g j) : va_P D cl (ws.set k (a, .inl (cA, n, .inr (.inr (.inr (.inr g)))))) H := by
  intro i q hq
  have hkl := (List.getElem?_eq_some_iff.mp hk).1
  by_cases hi : i = k
  · subst hi
    rw [List.getElem?_set_self hkl] at hq
    cases hq
    have h1 := h i _ hk
    show H[a]? = some (vp_cell _ _)
    have h2 : H[a]? = some (vp_cell cA (n, .inr (.inr (.inr (.inr f))))) := h1
    rw [h2]
    congr 1
    unfold vp_cell arrV
    simp only []
    congr 1
    apply Array.ext
    · simp
    · intro j h3 h4
      have hj : j < n := by simpa using h3
      simp [hfg j hj]
  · rw [List.getElem?_set_ne (Ne.symm hi)] at hq
    exact h i q hq
theorem ar_of {s : State} {args : Array Value} {ty : FieldType} (hne : ∀ C, ty ≠ .object C) (h : (Cond.arrayClass ty).before args s = true) : ∃ cA, ArrOfT s cA ty ∧ va_RA s cA ty := by
  obtain ⟨c, k, comp, h1, h2, h3⟩ := Cond.arrayClass_spec h
  refine ⟨c, fun n z => ⟨fun k h => (by cases h), k, h2, comp, h3⟩, ?_⟩
  cases ty with
  | object C => exact absurd rfl (hne C)
  | _ => exact h1
theorem ro_of {s : State} {args : Array Value} {C : String} (h : (Cond.arrayOver (.object C)).before args s = true) : ∃ cA, ArrOfT s cA (.object C) ∧ va_RA s cA (.object C) := by
  obtain ⟨comp, c, k, h1, h2, h3, h4, h5⟩ := Cond.arrayOver_spec h
  exact ⟨c, fun N z => ⟨(fun k h => by cases h), k, h3, comp, h4⟩, k, comp, h3, h4, h1, h5⟩
theorem kk_of {s : State} {args : Array Value} (c0 : ClassId) (hts : ∀ w ∈ lw_tbl, w.before args s = true) (hin : ∀ (ci : Nat) (q : vw_C), cls[ci]? = some q → Cond.instantiable q.1 q.2.2 ∈ tb) (aI : Cond.arrayClass .int ∈ tb) (aL : Cond.arrayClass .long ∈ tb) (aZ : Cond.arrayClass .boolean ∈ tb) (o6 : Cond.arrayOver (.object RX6) ∈ lw_tbl) (o0 : Cond.arrayOver (.object RX0) ∈ lw_tbl) (o7 : Cond.arrayOver (.object RX7) ∈ lw_tbl) : ∃ (D : va_G) (dA : Nat → ClassId), KK D dA s := by
  have ht : ∀ w ∈ tb, w.before args s = true := fun w hw => hts w (List.mem_filter.mp hw).1
  have hD : ∀ ci : Nat, ∃ z : ClassId × (Nat → Nat), ∀ q : vw_C, cls[ci]? = some q → u_Kn s q.1 q.2.1 q.2.2 z.1 z.2 := by
    intro ci
    cases hq : cls[ci]? with
    | none => exact ⟨(c0, fun _ => 0), fun q h => by cases h⟩
    | some q =>
      obtain ⟨cC, iS, h⟩ := u_known ht (cls_in ci q hq) (ht _ (hin ci q hq))
      exact ⟨(cC, iS), fun q' h' => by cases h'; exact h⟩
  obtain ⟨f, hf⟩ := Classical.axiomOfChoice hD
  obtain ⟨a0, h0⟩ := ar_of (ty := .int) (fun C h => by cases h) (ht _ aI)
  obtain ⟨a1, h1⟩ := ar_of (ty := .long) (fun C h => by cases h) (ht _ aL)
  obtain ⟨a2, h2⟩ := ar_of (ty := .boolean) (fun C h => by cases h) (ht _ aZ)
  obtain ⟨a3, h3⟩ := ro_of (hts _ o6)
  obtain ⟨a4, h4⟩ := ro_of (hts _ o0)
  obtain ⟨a5, h5⟩ := ro_of (hts _ o7)
  refine ⟨(fun c => (f c).1, fun c => (f c).2), fun i => [a0, a1, a2, a3, a4, a5].getD i c0, ⟨fun c q hq => hf c q hq, fun k q hk => ?_⟩, fun w hw => va_Nw.of (nb_on hw) (hts w (nb_in w hw)), va_AO.of (hts _ o6), va_AO.of (hts _ o0), va_AO.of (hts _ o7)⟩
  match k, hk with
  | 0, hk => cases hk; exact h0
  | 1, hk => cases hk; exact h1
  | 2, hk => cases hk; exact h2
  | 3, hk => cases hk; exact h3
  | 4, hk => cases hk; exact h4
  | 5, hk => cases hk; exact h5
  | k + 6, hk => simp [tyA] at hk
section LS
variable {l : Launch} {own : String} {cc : ByteArray} {nL : Nat} {ret : Option FieldType} {E : Ej} {C N : Nat} {Z : Zj} {pc : Nat} {Lc : List (Nat × Value)} {S : List Value}
theorem j_ic_sm {x y : Int} {off : Int} {tgt : Nat} (e : x = y) (hd : decode cc pc = .ok (.if_icmp .eq off, 3)) (ht : (pc : Int) + off = (tgt : Int)) (kt : J l own cc nL ret E C N Z tgt Lc S) : J l own cc nL ret E C N Z pc Lc (vi y :: vi x :: S) := by
  subst e
  intro p e R s m args below meth c H locs ls hF hE hl
  exact lv_icmp_eq hF.1 hF.2.1 hd ht (fun _ => kt p e R s m args below meth c H locs ls hF hE hl) (fun h => absurd rfl h)
theorem j_lc_sm {x y : Int} {off : Int} {tgt : Nat} (e : x = y) (hc : decode cc pc = .ok (.lcmp, 1)) (hd : decode cc (pc + 1) = .ok (.ifCond .eq off, 3)) (ht : ((pc + 1 : Nat) : Int) + off = (tgt : Int)) (kt : J l own cc nL ret E C N Z tgt Lc S) : J l own cc nL ret E C N Z pc Lc (vl y :: vl x :: S) := by
  subst e
  intro p e R s m args below meth c H locs ls hF hE hl
  refine W.lcmp hF.1 hF.2.1 hc ?_
  exact lv_if_eq hF.1 hF.2.1 hd ht (fun _ => kt p e R s m args below meth c H locs ls hF hE hl) (fun h => absurd ((lg_cmp_eq _ _).mpr rfl) h)
end LS
