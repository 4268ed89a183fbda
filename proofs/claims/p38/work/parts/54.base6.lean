/-! objects being made -/
abbrev msL (m : Nat → Int) (i : Nat) (x : Int) : Nat → Int := ms m i x
theorem updL_msL (m : Nat → Int) (k : Nat) (x : Int) : vp_updL (fun j => Int64.ofInt (m j)) k (Int64.ofInt x) = fun j => Int64.ofInt (msL m k x j) := updL_ms m k x
def tyA (dA : Nat → ClassId) : List (ClassId × FieldType) := [(dA 0, .int), (dA 1, .long), (dA 2, .boolean), (dA 3, .object RX6), (dA 4, .object RX0), (dA 5, .object RX7)]
def KK (D : va_G) (dA : Nat → ClassId) (s : State) : Prop := va_K D cls (tyA dA) s ∧ (∀ w ∈ nb, va_Nw w s) ∧ (va_AO RX6 s ∧ va_AO RX0 s ∧ va_AO RX7 s)
theorem KK.step {D : va_G} {dA : Nat → ClassId} {s U : State} (h : KK D dA s) (hW : s.WarmedH U.vm) : KK D dA U :=
  ⟨va_K.moved hW.alike h.1, fun w hw => nb_warm hw hW (h.2.1 w hw), va_AO.moved hW.alike h.2.2.1, va_AO.moved hW.alike h.2.2.2.1, va_AO.moved hW.alike h.2.2.2.2⟩
theorem KK.calling {D : va_G} {dA : Nat → ClassId} {U : State} {g : JFrame} {mk : MethodId} {a : Array Value} (h : KK D dA U) : KK D dA (U.calling g mk a) :=
  ⟨va_K.moved (u := U) (U := U.calling g mk a) (Vm.Alike.refl U.vm) h.1, fun w hw => va_Nw.same (u := U) (U := U.calling g mk a) (nb_on hw) rfl (h.2.1 w hw), va_AO.moved (u := U) (U := U.calling g mk a) (Vm.Alike.refl U.vm) h.2.2.1, va_AO.moved (u := U) (U := U.calling g mk a) (Vm.Alike.refl U.vm) h.2.2.2.1, va_AO.moved (u := U) (U := U.calling g mk a) (Vm.Alike.refl U.vm) h.2.2.2.2⟩
theorem ra_uniq {U : State} {a b : ClassId} {ty : FieldType} (h : va_RA U a ty) (g : va_RA U b ty) : a = b := by
  cases ty with
  | object C =>
    obtain ⟨_, _, _, _, _, h4⟩ := h
    obtain ⟨_, _, _, _, _, g4⟩ := g
    exact Option.some.inj (h4.symm.trans g4)
  | _ => exact Option.some.inj (h.symm.trans g)
def zI (dA : Nat → ClassId) (n : Nat) : va_E := .inl (dA 0, n, .inl (fun _ => Int32.ofInt 0))
def zL (dA : Nat → ClassId) (n : Nat) : va_E := .inl (dA 1, n, .inr (.inl (fun _ => Int64.ofInt 0)))
def zZ (dA : Nat → ClassId) (n : Nat) : va_E := .inl (dA 2, n, .inl (fun _ => Int32.ofInt 0))
def zR (dA : Nat → ClassId) (t n : Nat) (lst : List (Option Nat)) : va_E := .inl (dA (t + 3), n, .inr (.inr (.inr (.inr (fun j => lst.getD j none)))))
def rmA (d mc ms : Nat) : Room := { frames := d, cells := mc, slots := ms, locals := 64 * d }
def EC (D : va_G) (dA : Nat → ClassId) (A : Nat → Prop) (d mc ms : Nat) (ws : va_W) : Ej := fun R s _ meth H locs => KK D dA s ∧ (∀ q, s.heap.size ≤ q → A q) ∧ va_P D cls ws H ∧ va_D A ws ∧ va_S A s.heap H locs ∧ meth.name = "<init>" ∧ R = rmA d mc ms
def ZC (A : Nat → Prop) (mc ms : Nat) (Q : Heap → Prop) : Zj := fun below args s => MQ below (va_Qv (fun _ : Unit => True) (fun _ t => Q t.heap) A) args s mc ms A
def QW (D : va_G) (A : Nat → Prop) (Wf : (Nat → Nat) → va_W) : Heap → Prop := fun H => ∃ q : Nat → Nat, va_P D cls (Wf q) H ∧ va_D A (Wf q)
def CC (l : Launch) (D : va_G) (dA : Nat → ClassId) (d mc ms : Nat) (y : MethodName) (cc : ByteArray) (nL : Nat) (e0 : va_E) (Wf : Nat → (Nat → Nat) → va_W) : Prop :=
  ∀ h0 sz : Nat, Met l y (yw y cc nL none) (rmA d mc ms) (va_Pc [.ref h0] (fun U => U.heap.size = sz ∧ va_P D cls [(h0, e0)] U.heap ∧ KK D dA U)) (va_Qv (fun _ : Unit => True) (fun _ t => QW D (va_A [(h0, e0)] sz) (Wf h0) t.heap) (va_A [(h0, e0)] sz)) mc ms (va_A [(h0, e0)] sz)
theorem d_one {A : Nat → Prop} {h0 : Nat} {e0 : va_E} (h : A h0) : va_D A [(h0, e0)] := by
  refine ⟨fun i j p q hi hj _ => ?_, fun k q hk => ?_⟩
  · have h1 : i < 1 := (List.getElem?_eq_some_iff.mp hi).1
    have h2 : j < 1 := (List.getElem?_eq_some_iff.mp hj).1
    omega
  · have h1 : k < 1 := (List.getElem?_eq_some_iff.mp hk).1
    rw [show k = 0 by omega] at hk
    cases hk
    exact h
theorem CC.ofJ {l : Launch} {D : va_G} {dA : Nat → ClassId} {d mc ms : Nat} {y : MethodName} {cc : ByteArray} {nL : Nat} {e0 : va_E} {Wf : Nat → (Nat → Nat) → va_W} (hy : plainName y.cls = true) (hin : y.name = "<init>") (hn : 1 ≤ nL)
    (h : ∀ (h0 : Nat) (A : Nat → Prop), J l y.cls cc nL none (EC D dA A d mc ms [(h0, e0)]) 0 0 (ZC A mc ms (QW D A (Wf h0))) 0 [(0, .ref h0)] []) : CC l D dA d mc ms y cc nL e0 Wf := by
  intro h0 sz
  refine Met.ofW (cc := cc) (maxL := nL) (ret := none) hy rfl ?_
  intro p e s m args below meth c s₁ B hml hv
  obtain ⟨rfl, hsz, hP, hK⟩ := hv
  have hts := atoms_spec (ws := yw y cc nL none) B.pre
  have hown : s.vm.findClass y.cls = some m.cls := findClass_of_methodNamed B.named
  have hnm : meth.name = y.name := (name_of_methodNamed B.named B.method).1
  subst hsz
  have hl := lv_entry [Value.ref h0] (n := nL) (by exact hn)
  rw [lg_entry_eq]
  exact h h0 (va_A [(h0, e0)] s.heap.size) p e _ s m _ below meth c s.heap [] _ ⟨B.exec, B.bytes, B.returns, hml, hown, fun w hw => hts w (List.mem_cons_of_mem _ hw), B.notSynchronized⟩ ⟨hK, fun q hq => Or.inr hq, hP, d_one (Or.inl ⟨0, e0, rfl⟩), va_S.rf, hnm.trans hin, rfl⟩ hl
/-- own field, final -/
def pF (own : String) (i ci k : Nat) (ty : FieldType) : Prop := ∃ q : vw_C, cls[ci]? = some q ∧ k < q.2.2 ∧ Cond.fieldLink own i (q.2.1 k).1 (q.2.1 k).2.1 (q.2.1 k).2.2.1 ∈ tb ∧ (q.2.1 k).2.2.2 = true ∧ (q.2.1 k).1 = own ∧ parseFieldDescriptor (q.2.1 k).2.2.1 = some ty
/-- a constructor's link -/
def lmI (own : String) (i : Nat) (y : MethodName) : Prop := (y.cls ≠ "java/lang/invoke/MethodHandle" ∧ y.cls ≠ "java/lang/invoke/VarHandle" ∧ (parseMethodDescriptor y.desc).map (fun d => d.parameters.length) = some 0) ∧ Cond.initialized y.cls ∈ tb ∧ (Cond.methodLink own i y ∈ tb ∨ ∃ host, Cond.methodLinkNest own i y host ∈ nb) ∧ y.name = "<init>" ∧ Cond.instanceMethod y ∈ tb
theorem va_joinL {A : Nat → Prop} {D : va_G} {cl : List vw_C} {wr w1 : va_W} {b : Nat} {e0 : va_E} {H H1 : Heap} (hP : va_P D cl (wr ++ [(b, e0)]) H) (hD : va_D A (wr ++ [(b, e0)])) (hk : ∀ q : Nat, q < H.size → ¬ va_A [(b, e0)] H.size q → H1[q]? = H[q]?) (hF : ∀ q, va_A [(b, e0)] H.size q → A q) (hP1 : va_P D cl w1 H1) (hD1 : va_D (va_A [(b, e0)] H.size) w1) : va_P D cl (wr ++ w1) H1 ∧ va_D A (wr ++ w1) := by
  have hl : ∀ (k : Nat) (q : Nat × va_E), wr[k]? = some q → (wr ++ [(b, e0)])[k]? = some q := fun k q h => by
    have hlt := (List.getElem?_eq_some_iff.mp h).1
    rw [List.getElem?_append_left hlt]; exact h
  have hb : (wr ++ [(b, e0)])[wr.length]? = some (b, e0) := by simp
  have apart : ∀ (k : Nat) (q : Nat × va_E), wr[k]? = some q → q.1 < H.size ∧ ¬ va_A [(b, e0)] H.size q.1 := by
    intro k q hq
    have hlt := (hP k q (hl k q hq)).lt
    refine ⟨hlt, fun h => ?_⟩
    rcases h with ⟨k2, e, h⟩ | h
    · have h1 : k2 < 1 := (List.getElem?_eq_some_iff.mp h).1
      rw [show k2 = 0 by omega] at h
      have h2 : (b, e0) = (q.1, e) := Option.some.inj h
      have hbq : q.1 = b := (congrArg Prod.fst h2).symm
      have := hD.1 k wr.length q (b, e0) (hl k q hq) hb hbq
      have := (List.getElem?_eq_some_iff.mp hq).1
      omega
    · omega
  have hDr : va_D A wr := ⟨fun i j p q hi hj => hD.1 i j p q (hl i p hi) (hl j q hj), fun k q hk => hD.2 k q (hl k q hk)⟩
  refine ⟨va_P.app (fun k q hq => ?_) hP1, va_D.app hDr (hD1.weaken (fun k q _ h => hF q.1 h)) (fun i j x y hx hy hxy => ?_)⟩
  · obtain ⟨g1, g2⟩ := apart k q hq
    exact (hP k q (hl k q hq)).kept (hk q.1 g1 g2)
  · exact (apart i x hx).2 (by rw [hxy]; exact hD1.2 j y hy)
section KR
variable {l : Launch} {own : String} {cc : ByteArray} {nL : Nat} {D : va_G} {dA : Nat → ClassId} {A : Nat → Prop} {d mc ms : Nat} {ws : va_W} {C N : Nat} {Q : Heap → Prop} {pc pc' : Nat} {L : List (Nat × Value)} {S : List Value}
theorem k_obj {i a : Nat} (hd : decode cc pc = .ok (.invokespecial i, 3)) (hp : pc + 3 = pc') (hl0 : Cond.methodLink own i Lib.objectInit ∈ tb) (hi0 : Cond.instanceMethod Lib.objectInit ∈ tb) (hc0 : Cond.code Lib.objectInit ⟨#[0xb1]⟩ 1 none ∈ tb) (hdd : 1 ≤ d) (kt : J l own cc nL none (EC D dA A d mc ms ws) C N (ZC A mc ms Q) pc' L []) : J l own cc nL none (EC D dA A d mc ms ws) C N (ZC A mc ms Q) pc L [.ref a] := by
  subst hp
  intro p e R s m args below meth c H locs ls hF hE hl
  have k' := kt p e R s m args below meth c H locs ls hF hE hl
  obtain ⟨hx, hb, hr, hml, hown, hts, hlo⟩ := id hF
  obtain ⟨hK, hA, hP, hD, hS, hnm, hR⟩ := id hE
  refine W.objInit hx hb hown (hts _ hl0) (hts _ hi0) (hts _ hc0) rfl (by rw [hml]; exact hl.1) rfl hd (by rw [hR]; exact hdd) (by rw [hR]; show _ ≤ 64 * d; show 12 ≤ 64 * d; omega) ?_
  exact k'
theorem k_newI {n : Nat} {z : Int} {ws' : Nat → va_W} (hd : decode cc pc = .ok (.newarray .int, 2)) (hp : pc + 2 = pc') (hz : z = (n : Int)) (ha : Cond.arrayClass .int ∈ tb) (hn : n ≤ 300000) (hc : C + 1 ≤ mc) (hs : N + n ≤ ms) (hw : ∀ q, ws ++ [(q, zI dA n)] = ws' q) (kt : ∀ q : Nat, J l own cc nL none (EC D dA A d mc ms (ws' q)) (C + 1) (N + n) (ZC A mc ms Q) pc' L (.ref q :: S)) : J l own cc nL none (EC D dA A d mc ms ws) C N (ZC A mc ms Q) pc L (vi z :: S) := by
  subst hp; subst hz
  intro p e R s m args below meth c H locs ls hF hE hl
  obtain ⟨hx, hb, hr, hml, hown, hts, hlo⟩ := id hF
  obtain ⟨hK, hA, hP, hD, hS, hnm, hR⟩ := id hE
  obtain ⟨h1, h2⟩ := ix32c hn
  refine va_newa (atype := .int) (ty := .int) (N' := n) (a0 := (n, .inl (fun _ => Int32.ofInt 0))) hx hb (hts _ ha) rfl hK.1 hP hD hS hA (fun cA => rfl) h1 h2 (by show n * 4 ≤ _; omega) (by rw [hR]; exact hc) (by rw [hR]; exact hs) hd (fun q cA H1 hK1 hP1 hD1 hS1 => ?_)
  have hcA : cA = dA 0 := ra_uniq (hK1.2 6 (cA, .int) rfl).2 (hK1.2 0 (dA 0, .int) rfl).2
  subst hcA
  have hw1 := hw q
  unfold zI at hw1
  rw [hw1] at hP1 hD1
  exact kt q p e R s m args below meth c H1 locs ls hF ⟨hK, hA, hP1, hD1, hS1, hnm, hR⟩ hl
theorem k_newL {n : Nat} {z : Int} {ws' : Nat → va_W} (hd : decode cc pc = .ok (.newarray .long, 2)) (hp : pc + 2 = pc') (hz : z = (n : Int)) (ha : Cond.arrayClass .long ∈ tb) (hn : n ≤ 300000) (hc : C + 1 ≤ mc) (hs : N + n ≤ ms) (hw : ∀ q, ws ++ [(q, zL dA n)] = ws' q) (kt : ∀ q : Nat, J l own cc nL none (EC D dA A d mc ms (ws' q)) (C + 1) (N + n) (ZC A mc ms Q) pc' L (.ref q :: S)) : J l own cc nL none (EC D dA A d mc ms ws) C N (ZC A mc ms Q) pc L (vi z :: S) := by
  subst hp; subst hz
  intro p e R s m args below meth c H locs ls hF hE hl
  obtain ⟨hx, hb, hr, hml, hown, hts, hlo⟩ := id hF
  obtain ⟨hK, hA, hP, hD, hS, hnm, hR⟩ := id hE
  obtain ⟨h1, h2⟩ := ix32c hn
  refine va_newa (atype := .long) (ty := .long) (N' := n) (a0 := (n, .inr (.inl (fun _ => Int64.ofInt 0)))) hx hb (hts _ ha) rfl hK.1 hP hD hS hA (fun cA => rfl) h1 h2 (by show n * 8 ≤ _; omega) (by rw [hR]; exact hc) (by rw [hR]; exact hs) hd (fun q cA H1 hK1 hP1 hD1 hS1 => ?_)
  have hcA : cA = dA 1 := ra_uniq (hK1.2 6 (cA, .long) rfl).2 (hK1.2 1 (dA 1, .long) rfl).2
  subst hcA
  have hw1 := hw q
  unfold zL at hw1
  rw [hw1] at hP1 hD1
  exact kt q p e R s m args below meth c H1 locs ls hF ⟨hK, hA, hP1, hD1, hS1, hnm, hR⟩ hl
theorem k_newZ {n : Nat} {z : Int} {ws' : Nat → va_W} (hd : decode cc pc = .ok (.newarray .boolean, 2)) (hp : pc + 2 = pc') (hz : z = (n : Int)) (ha : Cond.arrayClass .boolean ∈ tb) (hn : n ≤ 300000) (hc : C + 1 ≤ mc) (hs : N + n ≤ ms) (hw : ∀ q, ws ++ [(q, zZ dA n)] = ws' q) (kt : ∀ q : Nat, J l own cc nL none (EC D dA A d mc ms (ws' q)) (C + 1) (N + n) (ZC A mc ms Q) pc' L (.ref q :: S)) : J l own cc nL none (EC D dA A d mc ms ws) C N (ZC A mc ms Q) pc L (vi z :: S) := by
  subst hp; subst hz
  intro p e R s m args below meth c H locs ls hF hE hl
  obtain ⟨hx, hb, hr, hml, hown, hts, hlo⟩ := id hF
  obtain ⟨hK, hA, hP, hD, hS, hnm, hR⟩ := id hE
  obtain ⟨h1, h2⟩ := ix32c hn
  refine va_newa (atype := .boolean) (ty := .boolean) (N' := n) (a0 := (n, .inl (fun _ => Int32.ofInt 0))) hx hb (hts _ ha) rfl hK.1 hP hD hS hA (fun cA => rfl) h1 h2 (by show n * 1 ≤ _; omega) (by rw [hR]; exact hc) (by rw [hR]; exact hs) hd (fun q cA H1 hK1 hP1 hD1 hS1 => ?_)
  have hcA : cA = dA 2 := ra_uniq (hK1.2 6 (cA, .boolean) rfl).2 (hK1.2 2 (dA 2, .boolean) rfl).2
  subst hcA
  have hw1 := hw q
  unfold zZ at hw1
  rw [hw1] at hP1 hD1
  exact kt q p e R s m args below meth c H1 locs ls hF ⟨hK, hA, hP1, hD1, hS1, hnm, hR⟩ hl
theorem k_newR {n t i : Nat} {z : Int} {Cn : String} {ws' : Nat → va_W} (hd : decode cc pc = .ok (.anewarray i, 3)) (hp : pc + 3 = pc') (hz : z = (n : Int)) (hlk : Cond.classLink own i Cn ∈ tb) (ht : (t = 0 ∧ Cn = RX6) ∨ (t = 1 ∧ Cn = RX0) ∨ (t = 2 ∧ Cn = RX7)) (hn : n ≤ 300000) (hc : C + 1 ≤ mc) (hs : N + n ≤ ms) {lst : List (Option Nat)} (hls : ∀ j : Nat, lst.getD j none = none) (hw : ∀ q, ws ++ [(q, zR dA t n lst)] = ws' q) (kt : ∀ q : Nat, J l own cc nL none (EC D dA A d mc ms (ws' q)) (C + 1) (N + n) (ZC A mc ms Q) pc' L (.ref q :: S)) : J l own cc nL none (EC D dA A d mc ms ws) C N (ZC A mc ms Q) pc L (vi z :: S) := by
  subst hp; subst hz
  intro p e R s m args below meth c H locs ls hF hE hl
  obtain ⟨hx, hb, hr, hml, hown, hts, hlo⟩ := id hF
  obtain ⟨hK, hA, hP, hD, hS, hnm, hR⟩ := id hE
  obtain ⟨h1, h2⟩ := ix32c hn
  have hao : va_AO Cn s := by
    rcases ht with ⟨_, h⟩ | ⟨_, h⟩ | ⟨_, h⟩
    · rw [h]; exact hK.2.2.1
    · rw [h]; exact hK.2.2.2.1
    · rw [h]; exact hK.2.2.2.2
  refine va_newq (N' := n) hx hb hown (hts _ hlk) hao hK.1 hP hD hS hA h1 h2 (by omega) (by rw [hR]; exact hc) (by rw [hR]; exact hs) hd (fun q cA H1 hK1 hP1 hD1 hS1 => ?_)
  have hcA : cA = dA (t + 3) := by
    have g := (hK1.2 6 (cA, .object Cn) rfl).2
    rcases ht with ⟨rfl, rfl⟩ | ⟨rfl, rfl⟩ | ⟨rfl, rfl⟩
    · exact ra_uniq g (hK1.2 3 (dA 3, .object RX6) rfl).2
    · exact ra_uniq g (hK1.2 4 (dA 4, .object RX0) rfl).2
    · exact ra_uniq g (hK1.2 5 (dA 5, .object RX7) rfl).2
  subst hcA
  have hw1 := hw q
  unfold zR at hw1
  rw [show (fun j => lst.getD j none) = (fun _ => none) from funext hls] at hw1
  rw [hw1] at hP1 hD1
  exact kt q p e R s m args below meth c H1 locs ls hF ⟨hK, hA, hP1, hD1, hS1, hnm, hR⟩ hl
theorem k_putF {i ci k a : Nat} {ty : FieldType} {fs : List Value} {v : Value} {ws' : va_W} (q0 : Nat) (hd : decode cc pc = .ok (.putfield i, 3)) (hp : pc + 3 = pc') (hf : pF own i ci k ty) (he : ws[q0]? = some (a, .inr (ci, fs))) (hn : narrow ty v = v) (hfit : fits ty v = true) (hlen : k < fs.length) (hw : ws.set q0 (a, .inr (ci, fs.set k v)) = ws') (kt : J l own cc nL none (EC D dA A d mc ms ws') C N (ZC A mc ms Q) pc' L S) : J l own cc nL none (EC D dA A d mc ms ws) C N (ZC A mc ms Q) pc L (v :: .ref a :: S) := by
  subst hp
  intro p e R s m args below meth c H locs ls hF hE hl
  obtain ⟨hx, hb, hr, hml, hown, hts, hlo⟩ := id hF
  obtain ⟨hK, hA, hP, hD, hS, hnm, hR⟩ := id hE
  obtain ⟨q, hq, hkN, hlk, hfin, hdecl, hty⟩ := hf
  obtain ⟨ty0, hty0⟩ := cls_ty ci q hq
  refine va_putF (D := D) (ci := ci) (C := q.1) (T := q.2.1) (N := q.2.2) (ty := ty) hx hb hts (cls_in ci q hq) ty0 hty0 (cls_nm ci q hq) hown hK.1 hP hD hS q0 he hq k hkN (hts _ hlk) (fun _ h9 => h9) hfin hnm hdecl hty hn hfit hlen hd (fun H1 locs1 hP1 hD1 hS1 => ?_)
  rw [hw] at hP1 hD1
  exact kt p e R s m args below meth c H1 locs1 ls hF ⟨hK, hA, hP1, hD1, hS1, hnm, hR⟩ hl
theorem k_put {i ci k a : Nat} {ty : FieldType} {fs : List Value} {v : Value} {ws' : va_W} (q0 : Nat) (hd : decode cc pc = .ok (.putfield i, 3)) (hp : pc + 3 = pc') (hf : pl own i ci k ty) (he : ws[q0]? = some (a, .inr (ci, fs))) (hn : narrow ty v = v) (hfit : fits ty v = true) (hlen : k < fs.length) (hw : ws.set q0 (a, .inr (ci, fs.set k v)) = ws') (kt : J l own cc nL none (EC D dA A d mc ms ws') C N (ZC A mc ms Q) pc' L S) : J l own cc nL none (EC D dA A d mc ms ws) C N (ZC A mc ms Q) pc L (v :: .ref a :: S) := by
  subst hp
  intro p e R s m args below meth c H locs ls hF hE hl
  obtain ⟨hx, hb, hr, hml, hown, hts, hlo⟩ := id hF
  obtain ⟨hK, hA, hP, hD, hS, hnm, hR⟩ := id hE
  obtain ⟨q, hq, hkN, hlk, hfin, hty⟩ := hf
  obtain ⟨ty0, hty0⟩ := cls_ty ci q hq
  rcases hlk with h | ⟨host, h⟩
  · refine va_put (D := D) (ci := ci) (C := q.1) (T := q.2.1) (N := q.2.2) (ty := ty) hx hb hts (cls_in ci q hq) ty0 hty0 (cls_nm ci q hq) hown hK.1 hP hD hS q0 he hq k hkN (hts _ h) (fun _ h9 => h9) hfin hty hn hfit hlen hd (fun H1 locs1 hP1 hD1 hS1 => ?_)
    rw [hw] at hP1 hD1
    exact kt p e R s m args below meth c H1 locs1 ls hF ⟨hK, hA, hP1, hD1, hS1, hnm, hR⟩ hl
  · refine va_putN (D := D) (ci := ci) (C := q.1) (T := q.2.1) (N := q.2.2) (ty := ty) (host := host) hx hb hts (cls_in ci q hq) ty0 hty0 (cls_nm ci q hq) hown hK.1 hP hD hS q0 he hq k hkN (va_Nw.use rfl (hK.2.1 _ h)) (fun _ h9 => h9) hfin hty hn hfit hlen hd (fun H1 locs1 hP1 hD1 hS1 => ?_)
    rw [hw] at hP1 hD1
    exact kt p e R s m args below meth c H1 locs1 ls hF ⟨hK, hA, hP1, hD1, hS1, hnm, hR⟩ hl
theorem k_get {i ci k a : Nat} {fs : List Value} {v : Value} (q0 : Nat) (hd : decode cc pc = .ok (.getfield i, 3)) (hp : pc + 3 = pc') (hf : fl own i ci k) (he : ws[q0]? = some (a, .inr (ci, fs))) (hv : fs[k]? = some v) (kt : J l own cc nL none (EC D dA A d mc ms ws) C N (ZC A mc ms Q) pc' L (v :: S)) : J l own cc nL none (EC D dA A d mc ms ws) C N (ZC A mc ms Q) pc L (.ref a :: S) := by
  subst hp
  intro p e R s m args below meth c H locs ls hF hE hl
  have k' := kt p e R s m args below meth c H locs ls hF hE hl
  obtain ⟨hx, hb, hr, hml, hown, hts, hlo⟩ := id hF
  obtain ⟨hK, hA, hP, hD, hS, hnm, hR⟩ := id hE
  obtain ⟨q, hq, hkN, hlk⟩ := hf
  rcases hlk with h | ⟨host, h⟩
  · exact va_get (D := D) (ci := ci) (C := q.1) (T := q.2.1) (N := q.2.2) hx hb hts (cls_in ci q hq) hown hK.1 hP q0 he hq k hkN (hts _ h) (fun _ h9 => h9) hv hd k'
  · exact va_getN (D := D) (ci := ci) (C := q.1) (T := q.2.1) (N := q.2.2) (host := host) hx hb hts (cls_in ci q hq) hown hK.1 hP q0 he hq k hkN (va_Nw.use rfl (hK.2.1 _ h)) (fun _ h9 => h9) hv hd k'
theorem k_new {i ci n : Nat} {q1 : vw_C} {ty : Nat → FieldType} {fs : List Value} {ws' : Nat → va_W} (hd : decode cc pc = .ok (.new i, 3)) (hp : pc + 3 = pc') (hq : cls[ci]? = some q1) (hn : q1.2.2 = n) (hty : ∀ k, k < q1.2.2 → parseFieldDescriptor (q1.2.1 k).2.2.1 = some (ty k)) (hlk : Cond.classLink own i q1.1 ∈ tb) (hin : Cond.instantiable q1.1 q1.2.2 ∈ tb) (hini : Cond.initialized q1.1 ∈ tb) (hfs : ∀ j, j < q1.2.2 → defaultValue (ty j) = vp_V fs j) (hc : C + 1 ≤ mc) (hs : N + n ≤ ms) (hw : ∀ q, ws ++ [(q, .inr (ci, fs))] = ws' q) (kt : ∀ q : Nat, J l own cc nL none (EC D dA A d mc ms (ws' q)) (C + 1) (N + n) (ZC A mc ms Q) pc' L (.ref q :: S)) : J l own cc nL none (EC D dA A d mc ms ws) C N (ZC A mc ms Q) pc L S := by
  subst hp; subst hn
  intro p e R s m args below meth c H locs ls hF hE hl
  obtain ⟨hx, hb, hr, hml, hown, hts, hlo⟩ := id hF
  obtain ⟨hK, hA, hP, hD, hS, hnm, hR⟩ := id hE
  refine va_new (ci := ci) (fs := fs) (C := q1.1) (T := q1.2.1) (N := q1.2.2) hx hb hts (cls_in ci q1 hq) ty hty hown (hts _ hlk) (hts _ hin) (hts _ hini) hK.1 hP hD hS hA hq hfs (by rw [hR]; exact hc) (by rw [hR]; exact hs) hd (fun q H1 hP1 hD1 hS1 => ?_)
  rw [hw] at hP1 hD1
  exact kt q p e R s m args below meth c H1 locs ls hF ⟨hK, hA, hP1, hD1, hS1, hnm, hR⟩ hl
theorem k_init {i d1 mc1 ms1 nL1 b : Nat} {y : MethodName} {cc1 : ByteArray} {e0 : va_E} {Wf : Nat → (Nat → Nat) → va_W} {wr : va_W} {ws' : (Nat → Nat) → va_W} (hd : decode cc pc = .ok (.invokespecial i, 3)) (hp : pc + 3 = pc') (hm : lmI own i y) (hcode : Cond.code y cc1 nL1 none ∈ tb) (hc : CC l D dA d1 mc1 ms1 y cc1 nL1 e0 Wf) (hr : d1 + 1 ≤ d) (hnL : nL1 ≤ 45) (hcw : C + mc1 ≤ mc) (hsw : N + ms1 ≤ ms) (hmm : mc1 ≤ mc ∧ ms1 ≤ ms) (hwt : (S.map fun v => v.category).sum ≤ 8) (hws : ws = wr ++ [(b, e0)]) (hw : ∀ q, wr ++ Wf b q = ws' q) (kt : ∀ q : Nat → Nat, J l own cc nL none (EC D dA A d mc ms (ws' q)) (C + mc1) (N + ms1) (ZC A mc ms Q) pc' L S) : J l own cc nL none (EC D dA A d mc ms ws) C N (ZC A mc ms Q) pc L (.ref b :: S) := by
  subst hp; subst hws
  intro p e R s m args below meth c H locs ls hF hE hl
  obtain ⟨hx, hb, hret, hml, hown, hts, hlo⟩ := id hF
  obtain ⟨hK, hA, hP, hD, hS, hnm, hR⟩ := id hE
  obtain ⟨hdd, hini, hlk, hy1, hins⟩ := hm
  have hfree : ∀ q, va_A [(b, e0)] H.size q → A q := fun q h => by
    rcases h with ⟨k, e, h⟩ | h
    · have h1 : k < 1 := (List.getElem?_eq_some_iff.mp h).1
      rw [show k = 0 by omega] at h
      have h2 : (b, e0) = (q, e) := Option.some.inj h
      have := hD.2 wr.length (b, e0) (by simp)
      have h3 : b = q := congrArg Prod.fst h2
      rw [← h3]; exact this
    · exact hA q (Nat.le_trans hS.1 h)
  have hroom : (rmA d1 mc1 ms1).frames + 1 ≤ R.frames ∧ 8 + (nL1 + 11) + (rmA d1 mc1 ms1).locals ≤ R.locals := by
    rw [hR]
    refine ⟨hr, ?_⟩
    show 8 + (nL1 + 11) + 64 * d1 ≤ 64 * d
    omega
  have hPb : va_P D cls [(b, e0)] H := fun k q hk => by
    have h1 : k < 1 := (List.getElem?_eq_some_iff.mp hk).1
    rw [show k = 0 by omega] at hk
    cases hk
    exact hP wr.length _ (by simp)
  have hpre : PreS s H (va_Pc [.ref b] (fun U => U.heap.size = H.size ∧ va_P D cls [(b, e0)] U.heap ∧ KK D dA U)) (.ref b :: []) :=
    ⟨fun a U g mk q => by obtain ⟨q0, q1, qP, qK⟩ := q; exact ⟨q0, q1, qP, qK.calling⟩, fun U hU hW => ⟨rfl, by rw [hU], by rw [hU]; exact hPb, hK.step hW⟩⟩
  have hgo : va_Run p l e R s m args below meth c H locs C N mc1 ms1 (F0 m pc ls (.ref b :: S)) S (va_Qv (fun _ : Unit => True) (fun _ t => QW D (va_A [(b, e0)] H.size) (Wf b) t.heap) (va_A [(b, e0)] H.size) [Value.ref b].toArray) (va_A [(b, e0)] H.size) := by
    rcases hlk with h | ⟨host, h⟩
    · exact va_runI (As := []) (rest := S) (n := 0) ⟨hx, hb, hml, hown, hts⟩ (hc b H.size) ⟨callB_of 0 hts (yw_good hcode) rfl rfl rfl (hts _ hini) (hts _ h) hdd hroom, hy1, hts _ hins⟩ hpre rfl rfl hl.1 rfl (lv_room hwt) hd ⟨by rw [hR]; exact hcw, by rw [hR]; exact hsw⟩
    · exact va_runIN (host := host) (As := []) (rest := S) (n := 0) ⟨hx, hb, hml, hown, hts⟩ (hc b H.size) ⟨va_cnB 0 hts (yw_good hcode) rfl rfl rfl (hK.2.1 _ h) (hts _ hini) hdd hroom, hy1, hts _ hins⟩ hpre rfl rfl hl.1 rfl (lv_room hwt) hd ⟨by rw [hR]; exact hcw, by rw [hR]; exact hsw⟩
  refine va_callv hgo hS (fun q _ h => hfree q h) hfree (fun u t H1 locs1 ht hvm _ hB hz hk hS1 => ?_)
  obtain ⟨q, hP1, hD1⟩ := hB
  rw [ht] at hP1
  obtain ⟨hP2, hD2⟩ := va_joinL hP hD hk hfree hP1 hD1
  rw [hw] at hP2 hD2
  exact kt q p e R s m args below meth c H1 locs1 ls hF ⟨hK, hA, hP2, hD2, hS1, hnm, hR⟩ hl
theorem up_set (lst : List (Option Nat)) (i : Nat) (v : Option Nat) (h : i < lst.length) : va_up (fun j => lst.getD j none) i v = fun j => (lst.set i v).getD j none := by
  funext j
  unfold va_up
  by_cases hj : j = i
  · subst hj; simp [List.getD_eq_getElem?_getD, List.getElem?_set_self h]
  · rw [if_neg hj]
    simp only [List.getD_eq_getElem?_getD]
    rw [List.getElem?_set_ne (Ne.symm hj)]
theorem k_ast {t n a v ci i : Nat} {z : Int} {r : vw_C} {vs : List Value} {lst : List (Option Nat)} {ws' : va_W} (q0 qk : Nat) (hd : decode cc pc = .ok (.aastore, 1)) (hp : pc + 1 = pc') (hz : z = (i : Int)) (ha : ws[q0]? = some (a, zR dA t n lst)) (hv : ws[qk]? = some (v, .inr (ci, vs))) (hc : cls[ci]? = some r) (ht : (tyA dA)[t + 3]? = some (dA (t + 3), .object r.1)) (hi : i < n) (hn : n ≤ 300000) (hlen : i < lst.length) (hw : ws.set q0 (a, zR dA t n (lst.set i (some v))) = ws') (kt : J l own cc nL none (EC D dA A d mc ms ws') C N (ZC A mc ms Q) pc' L S) : J l own cc nL none (EC D dA A d mc ms ws) C N (ZC A mc ms Q) pc L (.ref v :: vi z :: .ref a :: S) := by
  subst hp; subst hz
  intro p e R s m args below meth c H locs ls hF hE hl
  obtain ⟨hx, hb, hr, hml, hown, hts, hlo⟩ := id hF
  obtain ⟨hK, hA, hP, hD, hS, hnm, hR⟩ := id hE
  obtain ⟨h2, h3⟩ := ix32 (i := (i : Int)) (n := n) (by omega) (by omega) hn
  refine va_astq hx hb hK.1 hP hD hS q0 (t + 3) qk ci ha ht hv hc h2 hd (fun H1 locs1 hP1 hD1 hS1 => ?_)
  rw [h3, show (i : Int).toNat = i by omega, up_set _ _ _ hlen] at hP1 hD1
  have hw1 := hw
  unfold zR at hw1
  rw [hw1] at hP1 hD1
  exact kt p e R s m args below meth c H1 locs1 ls hF ⟨hK, hA, hP1, hD1, hS1, hnm, hR⟩ hl
theorem k_last {n a i : Nat} {z x : Int} {g : Nat → Int} {ws' : va_W} (q0 : Nat) (hd : decode cc pc = .ok (.lastore, 1)) (hp : pc + 1 = pc') (hz : z = (i : Int)) (ha : ws[q0]? = some (a, .inl (dA 1, n, .inr (.inl (fun j => Int64.ofInt (g j)))))) (hi : i < n) (hn : n ≤ 300000) (hw : ws.set q0 (a, .inl (dA 1, n, .inr (.inl (fun j => Int64.ofInt (msL g i x j))))) = ws') (kt : J l own cc nL none (EC D dA A d mc ms ws') C N (ZC A mc ms Q) pc' L S) : J l own cc nL none (EC D dA A d mc ms ws) C N (ZC A mc ms Q) pc L (vl x :: vi z :: .ref a :: S) := by
  subst hp; subst hz
  intro p e R s m args below meth c H locs ls hF hE hl
  obtain ⟨hx, hb, hr, hml, hown, hts, hlo⟩ := id hF
  obtain ⟨hK, hA, hP, hD, hS, hnm, hR⟩ := id hE
  obtain ⟨h2, h3⟩ := ix32 (i := (i : Int)) (n := n) (by omega) (by omega) hn
  refine va_last hx hb hK.1 hP hD hS q0 1 ha rfl h2 hd (fun H1 locs1 hP1 hD1 hS1 => ?_)
  rw [h3, show (i : Int).toNat = i by omega, updL_msL] at hP1 hD1
  rw [hw] at hP1 hD1
  exact kt p e R s m args below meth c H1 locs1 ls hF ⟨hK, hA, hP1, hD1, hS1, hnm, hR⟩ hl
theorem k_ret {Wf : (Nat → Nat) → va_W} (q : Nat → Nat) (hd : decode cc pc = .ok (.return_, 1)) (hc : C ≤ mc) (hs : N ≤ ms) (hw : ws = Wf q) : J l own cc nL none (EC D dA A d mc ms ws) C N (ZC A mc ms (QW D A Wf)) pc L [] := by
  subst hw
  intro p e R s m args below meth c H locs ls hF hE hl
  obtain ⟨hx, hb, hr, hml, hown, hts, hlo⟩ := id hF
  obtain ⟨hK, hA, hP, hD, hS, hnm, hR⟩ := id hE
  refine W.widen (k := mc) (n := ms) hc hs ?_
  exact W.vret hx hb hr (fun t ht hW => ⟨⟨(), rfl, trivial, q, by rw [ht]; exact hP, hD⟩, hS.F ht⟩) hS.2.2 hd
end KR
theorem rep_none (n : Nat) (j : Nat) : (List.replicate n (none : Option Nat)).getD j none = none := by
  simp only [List.getD_eq_getElem?_getD, List.getElem?_replicate]
  split <;> rfl
