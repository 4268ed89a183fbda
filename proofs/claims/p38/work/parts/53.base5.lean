/-! a judgement over any world (objects being made; the law) -/
def FxJ (own : String) (cc : ByteArray) (nL : Nat) (ret : Option FieldType) (p : Program) (s : State) (m : MethodId) (args : Array Value) (meth : Method) (c : Code) : Prop :=
  p.tables.exec = Jvm.exec ∧ c.code = cc ∧ meth.sig.returnType = ret ∧ c.maxLocals = nL ∧ s.vm.findClass own = some m.cls ∧ (∀ w ∈ tb, w.before args s = true) ∧ meth.locks = false
abbrev Ej : Type := Room → State → Array Value → Method → Heap → List Loc → Prop
abbrev Zj : Type := List Frame → Array Value → State → State → Prop
def J (l : Launch) (own : String) (cc : ByteArray) (nL : Nat) (ret : Option FieldType) (E : Ej) (C N : Nat) (Z : Zj) (pc : Nat) (L : List (Nat × Value)) (S : List Value) : Prop :=
  ∀ (p : Program) (e : Env) (R : Room) (s : State) (m : MethodId) (args : Array Value) (below : List Frame) (meth : Method) (c : Code) (H : Heap) (locs : List Loc) (ls : Array Slot),
    FxJ own cc nL ret p s m args meth c → E R s args meth H locs → lv_has ls nL L → W p l e R s m args below meth c H locs C N (Z below args s) (F0 m pc ls S)
section JR
variable {l : Launch} {own : String} {cc : ByteArray} {nL : Nat} {ret : Option FieldType} {E : Ej} {C N : Nat} {Z : Zj} {pc pc' : Nat} {L : List (Nat × Value)} {S : List Value}
theorem j_iconst {n : Int} (hd : decode cc pc = .ok (.iconst n, 1)) (hp : pc + 1 = pc') (k : J l own cc nL ret E C N Z pc' L (vi n :: S)) : J l own cc nL ret E C N Z pc L (S) := by
  subst hp
  intro p e R s m args below meth c H locs ls hF hE hl
  refine lv_iconst hF.1 hF.2.1 hd rfl ?_
  have k' := k p e R s m args below meth c H locs ls hF hE hl
  exact k'
theorem j_bipush {n : Int} {v : Int} (hd : decode cc pc = .ok (.bipush n, 2)) (hp : pc + 2 = pc') (hv : (Int8.ofInt n).toInt32 = Int32.ofInt v) (k : J l own cc nL ret E C N Z pc' L (vi v :: S)) : J l own cc nL ret E C N Z pc L S := by
  subst hp
  intro p e R s m args below meth c H locs ls hF hE hl
  refine lv_bipush hF.1 hF.2.1 hd hv ?_
  exact k p e R s m args below meth c H locs ls hF hE hl
theorem j_sipush {n : Int} {v : Int} (hd : decode cc pc = .ok (.sipush n, 3)) (hp : pc + 3 = pc') (hv : (Int16.ofInt n).toInt32 = Int32.ofInt v) (k : J l own cc nL ret E C N Z pc' L (vi v :: S)) : J l own cc nL ret E C N Z pc L S := by
  subst hp
  intro p e R s m args below meth c H locs ls hF hE hl
  refine lv_sipush hF.1 hF.2.1 hd hv ?_
  exact k p e R s m args below meth c H locs ls hF hE hl
theorem j_lconst {n : Fin 2} {v : Int} (hd : decode cc pc = .ok (.lconst n, 1)) (hp : pc + 1 = pc') (hv : Int64.ofNat (n : Nat) = Int64.ofInt v) (k : J l own cc nL ret E C N Z pc' L (vl v :: S)) : J l own cc nL ret E C N Z pc L S := by
  subst hp
  intro p e R s m args below meth c H locs ls hF hE hl
  refine lv_lconst hF.1 hF.2.1 hd hv ?_
  exact k p e R s m args below meth c H locs ls hF hE hl
theorem j_ldc {i : Nat} {v : Int} (hd : decode cc pc = .ok (.ldc i, 2)) (hp : pc + 2 = pc') (hc : Cond.constant own i (Int32.ofInt v) ∈ tb) (k : J l own cc nL ret E C N Z pc' L (vi v :: S)) : J l own cc nL ret E C N Z pc L S := by
  subst hp
  intro p e R s m args below meth c H locs ls hF hE hl
  refine lv_ldc hF.1 hF.2.1 hF.2.2.2.2.1 (hF.2.2.2.2.2.1 _ hc) hd ?_
  exact k p e R s m args below meth c H locs ls hF hE hl
theorem j_iload_n {k : Fin 4} {x : Int} (q : Nat) (hd : decode cc pc = .ok (.iload_n k, 1)) (hp : pc + 1 = pc') (hq : L[q]? = some ((k : Nat), vi x)) (k : J l own cc nL ret E C N Z pc' L (vi x :: S)) : J l own cc nL ret E C N Z pc L S := by
  subst hp
  intro p e R s m args below meth c H locs ls hF hE hl
  refine lv_iload_n hF.1 hF.2.1 hd rfl (lv_at hl q hq) ?_
  exact k p e R s m args below meth c H locs ls hF hE hl
theorem j_istore_n {k : Fin 4} {i : Nat} {x : Int} {L' : List (Nat × Value)} (hd : decode cc pc = .ok (.istore_n k, 1)) (hp : pc + 1 = pc') (hi : (k : Nat) = i) (hn : i < nL) (hL : (i, vi x) :: L.filter (fun q => !(q.1 == i) && !(q.1 + 1 == i && q.2.category == 2)) = L') (k : J l own cc nL ret E C N Z pc' L' S) : J l own cc nL ret E C N Z pc L (vi x :: S) := by
  subst hp
  intro p e R s m args below meth c H locs ls hF hE hl
  refine lv_istore_n hF.1 hF.2.1 hd hi hl hn hL (fun ls' hl' => ?_)
  exact k p e R s m args below meth c H locs ls' hF hE hl'
theorem j_iinc {i : Nat} {n x : Int} {L' : List (Nat × Value)} (q : Nat) (hd : decode cc pc = .ok (.iinc i n, 3)) (hp : pc + 3 = pc') (hq : L[q]? = some (i, vi x)) (hn : i < nL) (hL : (i, vi (x + n)) :: L.filter (fun q => !(q.1 == i) && !(q.1 + 1 == i && q.2.category == 2)) = L') (k : J l own cc nL ret E C N Z pc' L' S) : J l own cc nL ret E C N Z pc L S := by
  subst hp
  intro p e R s m args below meth c H locs ls hF hE hl
  refine lv_iinc (v := Int32.ofInt (x + n)) hF.1 hF.2.1 hd hl hq (by rw [Int32.ofInt_add]) hn hL (fun ls' hl' => ?_)
  exact k p e R s m args below meth c H locs ls' hF hE hl'
theorem j_iadd {x y : Int} (hd : decode cc pc = .ok (.iadd, 1)) (hp : pc + 1 = pc') (k : J l own cc nL ret E C N Z pc' L (vi (x + y) :: S)) : J l own cc nL ret E C N Z pc L (vi y :: vi x :: S) := by
  subst hp
  intro p e R s m args below meth c H locs ls hF hE hl
  refine lv_iadd hF.1 hF.2.1 hd ?_
  rw [← Int32.ofInt_add]
  exact k p e R s m args below meth c H locs ls hF hE hl
theorem j_isub {x y : Int} (hd : decode cc pc = .ok (.isub, 1)) (hp : pc + 1 = pc') (k : J l own cc nL ret E C N Z pc' L (vi (x - y) :: S)) : J l own cc nL ret E C N Z pc L (vi y :: vi x :: S) := by
  subst hp
  intro p e R s m args below meth c H locs ls hF hE hl
  refine lv_isub hF.1 hF.2.1 hd ?_
  rw [← Int32.ofInt_sub]
  exact k p e R s m args below meth c H locs ls hF hE hl
theorem j_dup {a : Value} (hd : decode cc pc = .ok (.dup, 1)) (hp : pc + 1 = pc') (hca : a.category = 1) (k : J l own cc nL ret E C N Z pc' L (a :: a :: S)) : J l own cc nL ret E C N Z pc L (a :: S) := by
  subst hp
  intro p e R s m args below meth c H locs ls hF hE hl
  refine lv_dup hF.1 hF.2.1 hd hca ?_
  exact k p e R s m args below meth c H locs ls hF hE hl
theorem j_pop {a : Value} (hd : decode cc pc = .ok (.pop, 1)) (hp : pc + 1 = pc') (hca : a.category = 1) (k : J l own cc nL ret E C N Z pc' L (S)) : J l own cc nL ret E C N Z pc L (a :: S) := by
  subst hp
  intro p e R s m args below meth c H locs ls hF hE hl
  refine lv_pop hF.1 hF.2.1 hd hca ?_
  exact k p e R s m args below meth c H locs ls hF hE hl
theorem j_goto {off : Int} {tgt : Nat} (hd : decode cc pc = .ok (.goto off, 3)) (ht : (pc : Int) + off = (tgt : Int)) (k : J l own cc nL ret E C N Z tgt L S) : J l own cc nL ret E C N Z pc L S := by
  intro p e R s m args below meth c H locs ls hF hE hl
  refine lv_goto hF.1 hF.2.1 hd ht ?_
  exact k p e R s m args below meth c H locs ls hF hE hl
theorem j_iand {x y : Int} (hd : decode cc pc = .ok (.iand, 1)) (hp : pc + 1 = pc') (k : inI (oand x y) → J l own cc nL ret E C N Z pc' L (vi (oand x y) :: S)) : J l own cc nL ret E C N Z pc L (vi y :: vi x :: S) := by
  subst hp
  intro p e R s m args below meth c H locs ls hF hE hl
  refine lv_iand hF.1 hF.2.1 hd ?_
  have k' := k (inI_toInt _) p e R s m args below meth c H locs ls hF hE hl
  unfold oand vi at k'
  rw [Int32.ofInt_toInt] at k'
  exact k'
theorem j_ic_ge {x y : Int} {off : Int} {tgt : Nat} (hx : inI x) (hy : inI y) (hd : decode cc pc = .ok (.if_icmp .ge off, 3)) (hp : pc + 3 = pc') (ht : (pc : Int) + off = (tgt : Int)) (kt : y ≤ x → J l own cc nL ret E C N Z tgt L S) (kf : x < y → J l own cc nL ret E C N Z pc' L S) : J l own cc nL ret E C N Z pc L (vi y :: vi x :: S) := by
  subst hp
  intro p e R s m args below meth c H locs ls hF hE hl
  refine lv_icmp_ge hF.1 hF.2.1 hd ht (fun h => ?_) (fun h => ?_)
  · exact kt ((c32_ge hx hy).mp h) p e R s m args below meth c H locs ls hF hE hl
  · exact kf (Int.not_le.mp (fun z => h ((c32_ge hx hy).mpr z))) p e R s m args below meth c H locs ls hF hE hl
theorem j_ic_gt {x y : Int} {off : Int} {tgt : Nat} (hx : inI x) (hy : inI y) (hd : decode cc pc = .ok (.if_icmp .gt off, 3)) (hp : pc + 3 = pc') (ht : (pc : Int) + off = (tgt : Int)) (kt : y < x → J l own cc nL ret E C N Z tgt L S) (kf : x ≤ y → J l own cc nL ret E C N Z pc' L S) : J l own cc nL ret E C N Z pc L (vi y :: vi x :: S) := by
  subst hp
  intro p e R s m args below meth c H locs ls hF hE hl
  refine lv_icmp_gt hF.1 hF.2.1 hd ht (fun h => ?_) (fun h => ?_)
  · exact kt ((c32_gt hx hy).mp h) p e R s m args below meth c H locs ls hF hE hl
  · exact kf (Int.not_lt.mp (fun z => h ((c32_gt hx hy).mpr z))) p e R s m args below meth c H locs ls hF hE hl
theorem j_aload {k : Fin 4} {a : Nat} (q : Nat) (hd : decode cc pc = .ok (.aload_n k, 1)) (hp : pc + 1 = pc') (hq : L[q]? = some ((k : Nat), .ref a)) (k : J l own cc nL ret E C N Z pc' L (.ref a :: S)) : J l own cc nL ret E C N Z pc L S := by
  subst hp
  intro p e R s m args below meth c H locs ls hF hE hl
  refine lv_aload_n hF.1 hF.2.1 hd rfl (lv_at hl q hq) ?_
  exact k p e R s m args below meth c H locs ls hF hE hl
theorem j_astore {k : Fin 4} {i a : Nat} {L' : List (Nat × Value)} (hd : decode cc pc = .ok (.astore_n k, 1)) (hp : pc + 1 = pc') (hi : (k : Nat) = i) (hn : i < nL) (hL : (i, Value.ref a) :: L.filter (fun q => !(q.1 == i) && !(q.1 + 1 == i && q.2.category == 2)) = L') (k : J l own cc nL ret E C N Z pc' L' S) : J l own cc nL ret E C N Z pc L (.ref a :: S) := by
  subst hp
  intro p e R s m args below meth c H locs ls hF hE hl
  refine lv_astore_n hF.1 hF.2.1 hd hi hl hn hL (fun ls' hl' => ?_)
  exact k p e R s m args below meth c H locs ls' hF hE hl'
end JR
