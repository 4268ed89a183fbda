/-! THE SMALL MACHINE: a memory of whole numbers (cell, place); rows for each instruction over it. -/
abbrev Mm : Type := Nat → Nat → Int
def vi (x : Int) : Value := .int (Int32.ofInt x)
def vl (x : Int) : Value := .long (Int64.ofInt x)
def vr (X : Cx) (c : Nat) : Value := .ref (X.2.1 c)
abbrev inI (x : Int) : Prop := -2147483648 ≤ x ∧ x ≤ 2147483647
abbrev inL (x : Int) : Prop := -9223372036854775808 ≤ x ∧ x ≤ 9223372036854775807
def vs (X : Cx) (j : Nat) : Value := .ref (X.2.2.2.2.1 j)
def ms (m : Nat → Int) (i : Nat) (x : Int) : Nat → Int := fun j => if j = i then x else m j
def mu (M : Mm) (c i : Nat) (x : Int) : Mm := fun c' => if c' = c then ms (M c) i x else M c'
theorem mu_at (M : Mm) (c i : Nat) (x : Int) : mu M c i x c i = x := by simp [mu, ms]
theorem mu_ne (M : Mm) {c i c' i' : Nat} (x : Int) (h : c' = c → i' ≠ i) : mu M c i x c' i' = M c' i' := by
  unfold mu ms
  by_cases hc : c' = c
  · subst hc; simp [h rfl]
  · simp [hc]
theorem mu_cell (M : Mm) {c i c' : Nat} (x : Int) (h : c' ≠ c) : mu M c i x c' = M c' := by simp [mu, h]
/-- a field's or an element's kind: 0 an int (boolean, too), 1 a long, 2 a reference that the memory names by its cell, 3 + c the cell c always -/
def fv (X : Cx) (k : Nat) (x : Int) : Value := match k with
  | 0 => vi x
  | 1 => vl x
  | 2 => vr X x.toNat
  | c + 3 => vr X c
/-- a cell: 0 an object (its class's number, its fields' kinds), 1 an int array, 2 a long array, 3 a boolean array, 4 + t an array of references (the t-th kind) -/
def ce (X : Cx) (d : Dsc) (m : Nat → Int) : va_E := match d.1 with
  | 0 => .inr (d.2.1, (List.range d.2.2.length).map (fun i => fv X (d.2.2.getD i 0) (m i)))
  | 1 => .inl (X.2.2.2.1 0, d.2.1, .inl (fun j => Int32.ofInt (m j)))
  | 2 => .inl (X.2.2.2.1 1, d.2.1, .inr (.inl (fun j => Int64.ofInt (m j))))
  | 3 => .inl (X.2.2.2.1 2, d.2.1, .inl (fun j => Int32.ofInt (m j)))
  | t + 4 => .inl (X.2.2.2.1 (t + 3), d.2.1, .inr (.inr (.inr (.inr (fun j => some (X.2.1 (d.2.2.getD j 0)))))))
def wd (X : Cx) (M : Mm) : va_W := shp.mapIdx (fun c d => (X.2.1 c, ce X d (M c)))
theorem wd_at {X : Cx} {M : Mm} {c : Nat} {d : Dsc} (h : shp[c]? = some d) : (wd X M)[c]? = some (X.2.1 c, ce X d (M c)) := by
  simp [wd, List.getElem?_mapIdx, h]
theorem wd_of {X : Cx} {M : Mm} {c : Nat} {q : Nat × va_E} (h : (wd X M)[c]? = some q) : ∃ d, shp[c]? = some d ∧ q = (X.2.1 c, ce X d (M c)) := by
  simp only [wd, List.getElem?_mapIdx] at h
  cases hd : shp[c]? with
  | none => simp [hd] at h
  | some d => exact ⟨d, rfl, by simpa [hd] using h.symm⟩
theorem wd_up {X : Cx} {M : Mm} {c : Nat} {d : Dsc} {m : Nat → Int} (h : shp[c]? = some d) : (wd X M).set c (X.2.1 c, ce X d m) = wd X (fun c' => if c' = c then m else M c') := by
  apply List.ext_getElem?
  intro j
  have hl : c < shp.length := (List.getElem?_eq_some_iff.mp h).1
  have hlw : c < (wd X M).length := by simp [wd, hl]
  by_cases hj : j = c
  · subst hj
    rw [List.getElem?_set_self hlw, wd_at h]
    simp
  · rw [List.getElem?_set_ne (Ne.symm hj)]
    simp only [wd, List.getElem?_mapIdx]
    simp [hj]
def apart (X : Cx) : Prop := ∀ (c c' : Nat) (d d' : Dsc), shp[c]? = some d → shp[c']? = some d' → X.2.1 c = X.2.1 c' → c = c'
theorem wd_D {X : Cx} (h : apart X) (M : Mm) : va_D (ax X) (wd X M) := by
  refine ⟨fun i j p q hi hj hpq => ?_, fun k q hk => ?_⟩
  · obtain ⟨d, h1, rfl⟩ := wd_of hi
    obtain ⟨d', h2, rfl⟩ := wd_of hj
    exact h i j d d' h1 h2 hpq
  · obtain ⟨d, h1, rfl⟩ := wd_of hk
    exact ⟨k, d, h1, rfl⟩
/-- the range of what lies at a place -/
def kd (c i : Nat) : Nat := match shp[c]? with
  | none => 9
  | some d => match d.1 with
    | 0 => d.2.2.getD i 9
    | 1 => 0
    | 2 => 1
    | 3 => 0
    | _ => 9
def inK (k : Nat) (x : Int) : Prop := match k with
  | 0 => inI x
  | 1 => inL x
  | _ => True
def Rg (M : Mm) : Prop := ∀ c i, inK (kd c i) (M c i)
theorem Rg.up {M : Mm} (h : Rg M) {c i : Nat} {x : Int} (hx : inK (kd c i) x) : Rg (mu M c i x) := by
  intro c' i'
  unfold mu ms
  by_cases hc : c' = c
  · subst hc
    by_cases hi : i' = i
    · subst hi; simpa using hx
    · simpa [hi] using h c' i'
  · simpa [hc] using h c' i'
def rmo (d : Nat) : Room := { frames := d, cells := 0, slots := 0, locals := 64 * d }
def Wo (X : Cx) (s : State) : Prop := va_K X.2.2.1 cls (tyl X) s ∧ apart X ∧ (∀ w ∈ nb, va_Nw w s) ∧ Str X s s.heap
def Qm (X : Cx) (Q : Option Value → Mm → Prop) : Array Value → State → Outcome → State → Prop := fun _ st oc t =>
  ∃ (v : Option Value) (M : Mm), oc = .returned v ∧ Q v M ∧ Rg M ∧ va_P X.2.2.1 cls (wd X M) t.heap ∧ va_F (ax X) st t
def Fx (rm : Nat) (own : String) (cc : ByteArray) (nL : Nat) (ret : Option FieldType) (p : Program) (R : Room) (s : State) (m : MethodId) (args : Array Value) (meth : Method) (c : Code) : Prop :=
  p.tables.exec = Jvm.exec ∧ c.code = cc ∧ meth.sig.returnType = ret ∧ c.maxLocals = nL ∧ s.vm.findClass own = some m.cls ∧ (∀ w ∈ tb, w.before args s = true) ∧ meth.locks = false ∧ R = rmo rm
/-- from here (pc, locals, stack, memory) the method comes to its end with Q -/
def G (X : Cx) (rm : Nat) (own : String) (cc : ByteArray) (nL : Nat) (ret : Option FieldType) (Q : Option Value → Mm → Prop) (pc : Nat) (L : List (Nat × Value)) (S : List Value) (M : Mm) : Prop :=
  Rg M → ∀ (p : Program) (e : Env) (R : Room) (s : State) (m : MethodId) (args : Array Value) (below : List Frame) (meth : Method) (c : Code) (H : Heap) (locs : List Loc) (ls : Array Slot),
    Fx rm own cc nL ret p R s m args meth c → Wo X s → va_P X.2.2.1 cls (wd X M) H → va_S (ax X) s.heap H locs → lv_has ls nL L →
    W p X.1 e R s m args below meth c H locs 0 0 (MQ below (Qm X Q) args s 0 0 (ax X)) (F0 m pc ls S)
def yw (y : MethodName) (cc : ByteArray) (nL : Nat) (ret : Option FieldType) : List Cond := .code y cc nL ret :: tb
/-- a method's contract -/
def Con (X : Cx) (d : Nat) (y : MethodName) (cc : ByteArray) (nL : Nat) (ret : Option FieldType) (As : List Value) (M : Mm) (Q : Option Value → Mm → Prop) : Prop :=
  Rg M → Met X.1 y (yw y cc nL ret) (rmo d) (va_Pc As (fun U => Wo X U ∧ va_P X.2.2.1 cls (wd X M) U.heap)) (Qm X Q) 0 0 (ax X)
def Qi (post : Int → Mm → Prop) : Option Value → Mm → Prop := fun v M => ∃ x, v = some (vi x) ∧ post x M
def Ql (post : Int → Mm → Prop) : Option Value → Mm → Prop := fun v M => ∃ x, v = some (vl x) ∧ post x M
def Qv (post : Mm → Prop) : Option Value → Mm → Prop := fun v M => v = none ∧ post M
def Qr (X : Cx) (post : Nat → Mm → Prop) : Option Value → Mm → Prop := fun v M => ∃ x, v = some (vr X x) ∧ post x M
theorem Con.ofG {X : Cx} {d : Nat} {y : MethodName} {cc : ByteArray} {nL : Nat} {ret : Option FieldType} {As : List Value} {M : Mm} {Q : Option Value → Mm → Prop} (hy : plainName y.cls = true) (hn : (lg_sl As).length ≤ nL)
    (h : G X d y.cls cc nL ret Q 0 (lv_args 0 As) [] M) : Con X d y cc nL ret As M Q := by
  intro hR
  refine Met.ofW (cc := cc) (maxL := nL) (ret := ret) hy rfl ?_
  intro p e s m args below meth c s₁ B hml hv
  obtain ⟨rfl, hW, hP⟩ := hv
  have hts := atoms_spec (ws := yw y cc nL ret) B.pre
  have hown : s.vm.findClass y.cls = some m.cls := findClass_of_methodNamed B.named
  have hl := lv_entry As (n := nL) hn
  rw [lg_entry_eq]
  exact h hR p e _ s m _ below meth c s.heap [] _ ⟨B.exec, B.bytes, B.returns, hml, hown, fun w hw => hts w (List.mem_cons_of_mem _ hw), B.notSynchronized, rfl⟩ hW hP va_S.rf hl

/-! numbers -/
theorem inI_toInt (v : Int32) : inI v.toInt := ⟨by have := v.le_toInt; omega, by have := v.toInt_lt; omega⟩
theorem inL_toInt (v : Int64) : inL v.toInt := ⟨by have := v.le_toInt; omega, by have := v.toInt_lt; omega⟩
theorem t32 {x : Int} (h : inI x) : (Int32.ofInt x).toInt = x := Int32.toInt_ofInt_of_le (by have := h.1; omega) (by have := h.2; omega)
theorem t64 {x : Int} (h : inL x) : (Int64.ofInt x).toInt = x := Int64.toInt_ofInt_of_le (by have := h.1; omega) (by have := h.2; omega)
def oshr (x y : Int) : Int := (Int32.ofInt x >>> (Int32.ofInt y &&& 31)).toInt
def oand (x y : Int) : Int := (Int32.ofInt x &&& Int32.ofInt y).toInt
theorem i32_ne0 {y : Int} (h : inI y) (h0 : y ≠ 0) : ¬ Int32.ofInt y = 0 := fun q => h0 (by have := congrArg Int32.toInt q; rw [t32 h] at this; simpa using this)
theorem i64_ne0 {y : Int} (h : inL y) (h0 : y ≠ 0) : ¬ Int64.ofInt y = 0 := fun q => h0 (by have := congrArg Int64.toInt q; rw [t64 h] at this; simpa using this)
theorem i32_div {x y : Int} (hx : inI x) (hy : inI y) : Int32.ofInt x / Int32.ofInt y = Int32.ofInt (x.tdiv y) := by
  apply Int32.toInt_inj.mp
  rw [Int32.toInt_div, t32 hx, t32 hy, Int32.toInt_ofInt]
theorem i64_div {x y : Int} (hx : inL x) (hy : inL y) : Int64.ofInt x / Int64.ofInt y = Int64.ofInt (x.tdiv y) := by
  apply Int64.toInt_inj.mp
  rw [Int64.toInt_div, t64 hx, t64 hy, Int64.toInt_ofInt]
theorem i32_rem {x y : Int} (hx : inI x) (hy : inI y) : Int32.ofInt x - Int32.ofInt x / Int32.ofInt y * Int32.ofInt y = Int32.ofInt (x.tmod y) := by
  rw [i32_div hx hy, ← Int32.ofInt_mul, ← Int32.ofInt_sub]
  congr 1
  have := Int.tmod_add_mul_tdiv x y
  rw [Int.mul_comm]
  omega
theorem i64_rem {x y : Int} (hx : inL x) (hy : inL y) : Int64.ofInt x - Int64.ofInt x / Int64.ofInt y * Int64.ofInt y = Int64.ofInt (x.tmod y) := by
  rw [i64_div hx hy, ← Int64.ofInt_mul, ← Int64.ofInt_sub]
  congr 1
  have := Int.tmod_add_mul_tdiv x y
  rw [Int.mul_comm]
  omega
theorem bm32 {x : Int} (h : inI x) : x.bmod 4294967296 = x := by
  have := @Int32.toInt_ofInt x
  rw [t32 h] at this
  exact this.symm
theorem bm64 {x : Int} (h : inL x) : x.bmod 18446744073709551616 = x := by
  have := @Int64.toInt_ofInt x
  rw [t64 h] at this
  exact this.symm
theorem i32_l {x : Int} (h : inI x) : (Int32.ofInt x).toInt64 = Int64.ofInt x := by
  apply Int64.toInt_inj.mp
  rw [Int32.toInt_toInt64, t32 h, t64 ⟨by have := h.1; omega, by have := h.2; omega⟩]
theorem i64_i (x : Int) : (Int64.ofInt x).toInt32 = Int32.ofInt x := by
  apply Int32.toInt_inj.mp
  rw [Int64.toInt_toInt32, Int64.toInt_ofInt, Int32.toInt_ofInt]
  exact Int.bmod_bmod_of_dvd (by decide)

theorem c32_eq {x y : Int} (hx : inI x) (hy : inI y) : Int32.ofInt x = Int32.ofInt y ↔ x = y := ⟨fun h => by have := congrArg Int32.toInt h; rwa [t32 hx, t32 hy] at this, fun h => by rw [h]⟩
theorem c32_lt' {x y : Int} (hx : inI x) (hy : inI y) : Int32.ofInt x < Int32.ofInt y ↔ x < y := by rw [Int32.lt_iff_toInt_lt, t32 hx, t32 hy]
theorem c32_le' {x y : Int} (hx : inI x) (hy : inI y) : Int32.ofInt x ≤ Int32.ofInt y ↔ x ≤ y := by rw [Int32.le_iff_toInt_le, t32 hx, t32 hy]
theorem c64_eq {x y : Int} (hx : inL x) (hy : inL y) : Int64.ofInt x = Int64.ofInt y ↔ x = y := ⟨fun h => by have := congrArg Int64.toInt h; rwa [t64 hx, t64 hy] at this, fun h => by rw [h]⟩
theorem c64_lt' {x y : Int} (hx : inL x) (hy : inL y) : Int64.ofInt x < Int64.ofInt y ↔ x < y := by rw [Int64.lt_iff_toInt_lt, t64 hx, t64 hy]
theorem c64_le' {x y : Int} (hx : inL x) (hy : inL y) : Int64.ofInt x ≤ Int64.ofInt y ↔ x ≤ y := by rw [Int64.le_iff_toInt_le, t64 hx, t64 hy]
theorem c32_ne {x y : Int} (hx : inI x) (hy : inI y) : (¬ Int32.ofInt x = Int32.ofInt y) ↔ x ≠ y := not_congr (c32_eq hx hy)
theorem c32_lt {x y : Int} (hx : inI x) (hy : inI y) : Int32.ofInt x < Int32.ofInt y ↔ x < y := c32_lt' hx hy
theorem c32_gt {x y : Int} (hx : inI x) (hy : inI y) : Int32.ofInt y < Int32.ofInt x ↔ y < x := c32_lt' hy hx
theorem c32_le {x y : Int} (hx : inI x) (hy : inI y) : Int32.ofInt x ≤ Int32.ofInt y ↔ x ≤ y := c32_le' hx hy
theorem c32_ge {x y : Int} (hx : inI x) (hy : inI y) : Int32.ofInt y ≤ Int32.ofInt x ↔ y ≤ x := c32_le' hy hx
theorem in0 : inI 0 := by unfold inI; omega
theorem z32 : (0 : Int32) = Int32.ofInt 0 := rfl
theorem c32_eq0 {x : Int} (hx : inI x) : Int32.ofInt x = 0 ↔ x = 0 := by rw [z32]; exact c32_eq hx in0
theorem c32_ne0 {x : Int} (hx : inI x) : (¬ Int32.ofInt x = 0) ↔ x ≠ 0 := not_congr (c32_eq0 hx)
theorem c32_lt0 {x : Int} (hx : inI x) : Int32.ofInt x < 0 ↔ x < 0 := by rw [z32]; exact c32_lt' hx in0
theorem c32_gt0 {x : Int} (hx : inI x) : 0 < Int32.ofInt x ↔ 0 < x := by rw [z32]; exact c32_lt' in0 hx
theorem c32_le0 {x : Int} (hx : inI x) : Int32.ofInt x ≤ 0 ↔ x ≤ 0 := by rw [z32]; exact c32_le' hx in0
theorem c32_ge0 {x : Int} (hx : inI x) : 0 ≤ Int32.ofInt x ↔ 0 ≤ x := by rw [z32]; exact c32_le' in0 hx
theorem c64_eq' {x y : Int} (hx : inL x) (hy : inL y) : lg_cmp (Int64.ofInt x) (Int64.ofInt y) = 0 ↔ x = y := (lg_cmp_eq _ _).trans (c64_eq hx hy)
theorem c64_ne {x y : Int} (hx : inL x) (hy : inL y) : (¬ lg_cmp (Int64.ofInt x) (Int64.ofInt y) = 0) ↔ x ≠ y := not_congr (c64_eq' hx hy)
theorem c64_lt {x y : Int} (hx : inL x) (hy : inL y) : lg_cmp (Int64.ofInt x) (Int64.ofInt y) < 0 ↔ x < y := (lg_cmp_lt _ _).trans (c64_lt' hx hy)
theorem c64_gt {x y : Int} (hx : inL x) (hy : inL y) : 0 < lg_cmp (Int64.ofInt x) (Int64.ofInt y) ↔ y < x := (lg_cmp_gt _ _).trans (c64_lt' hy hx)
theorem c64_le {x y : Int} (hx : inL x) (hy : inL y) : lg_cmp (Int64.ofInt x) (Int64.ofInt y) ≤ 0 ↔ x ≤ y := (lg_cmp_le _ _).trans (c64_le' hx hy)
theorem c64_ge {x y : Int} (hx : inL x) (hy : inL y) : 0 ≤ lg_cmp (Int64.ofInt x) (Int64.ofInt y) ↔ y ≤ x := (lg_cmp_ge _ _).trans (c64_le' hy hx)
section GR
variable {X : Cx} {rm : Nat} {own : String} {cc : ByteArray} {nL : Nat} {ret : Option FieldType} {Q : Option Value → Mm → Prop} {pc pc' : Nat} {L : List (Nat × Value)} {S : List Value} {M : Mm}
theorem g_iconst {n : Int} (hd : decode cc pc = .ok (.iconst n, 1)) (hp : pc + 1 = pc') (k : G X rm own cc nL ret Q pc' L (vi n :: S) M) : G X rm own cc nL ret Q pc L (S) M := by
  subst hp
  intro hR p e R s m args below meth c H locs ls hF hW hP hS hl
  refine lv_iconst hF.1 hF.2.1 hd rfl ?_
  have k' := k hR p e R s m args below meth c H locs ls hF hW hP hS hl
  exact k'
theorem g_bipush {n : Int} {v : Int} (hd : decode cc pc = .ok (.bipush n, 2)) (hp : pc + 2 = pc') (hv : (Int8.ofInt n).toInt32 = Int32.ofInt v) (k : G X rm own cc nL ret Q pc' L (vi v :: S) M) : G X rm own cc nL ret Q pc L S M := by
  subst hp
  intro hR p e R s m args below meth c H locs ls hF hW hP hS hl
  refine lv_bipush hF.1 hF.2.1 hd hv ?_
  exact k hR p e R s m args below meth c H locs ls hF hW hP hS hl
theorem g_sipush {n : Int} {v : Int} (hd : decode cc pc = .ok (.sipush n, 3)) (hp : pc + 3 = pc') (hv : (Int16.ofInt n).toInt32 = Int32.ofInt v) (k : G X rm own cc nL ret Q pc' L (vi v :: S) M) : G X rm own cc nL ret Q pc L S M := by
  subst hp
  intro hR p e R s m args below meth c H locs ls hF hW hP hS hl
  refine lv_sipush hF.1 hF.2.1 hd hv ?_
  exact k hR p e R s m args below meth c H locs ls hF hW hP hS hl
theorem g_lconst {n : Fin 2} {v : Int} (hd : decode cc pc = .ok (.lconst n, 1)) (hp : pc + 1 = pc') (hv : Int64.ofNat (n : Nat) = Int64.ofInt v) (k : G X rm own cc nL ret Q pc' L (vl v :: S) M) : G X rm own cc nL ret Q pc L S M := by
  subst hp
  intro hR p e R s m args below meth c H locs ls hF hW hP hS hl
  refine lv_lconst hF.1 hF.2.1 hd hv ?_
  exact k hR p e R s m args below meth c H locs ls hF hW hP hS hl
theorem g_ldc {i : Nat} {v : Int} (hd : decode cc pc = .ok (.ldc i, 2)) (hp : pc + 2 = pc') (hc : Cond.constant own i (Int32.ofInt v) ∈ tb) (k : G X rm own cc nL ret Q pc' L (vi v :: S) M) : G X rm own cc nL ret Q pc L S M := by
  subst hp
  intro hR p e R s m args below meth c H locs ls hF hW hP hS hl
  refine lv_ldc hF.1 hF.2.1 hF.2.2.2.2.1 (hF.2.2.2.2.2.1 _ hc) hd ?_
  exact k hR p e R s m args below meth c H locs ls hF hW hP hS hl
theorem g_ldcw {i : Nat} {v : Int} (hd : decode cc pc = .ok (.ldc_w i, 3)) (hp : pc + 3 = pc') (hc : Cond.constant own i (Int32.ofInt v) ∈ tb) (k : G X rm own cc nL ret Q pc' L (vi v :: S) M) : G X rm own cc nL ret Q pc L S M := by
  subst hp
  intro hR p e R s m args below meth c H locs ls hF hW hP hS hl
  refine lv_ldcw hF.1 hF.2.1 hF.2.2.2.2.1 (hF.2.2.2.2.2.1 _ hc) hd ?_
  exact k hR p e R s m args below meth c H locs ls hF hW hP hS hl
theorem g_ldc2 {i : Nat} {v : Int} (hd : decode cc pc = .ok (.ldc2_w i, 3)) (hp : pc + 3 = pc') (hc : Cond.constantLong own i (Int64.ofInt v) ∈ tb) (k : G X rm own cc nL ret Q pc' L (vl v :: S) M) : G X rm own cc nL ret Q pc L S M := by
  subst hp
  intro hR p e R s m args below meth c H locs ls hF hW hP hS hl
  refine lv_ldc2 hF.1 hF.2.1 hF.2.2.2.2.1 (hF.2.2.2.2.2.1 _ hc) hd ?_
  exact k hR p e R s m args below meth c H locs ls hF hW hP hS hl
theorem g_iload_n {k : Fin 4} {x : Int} (q : Nat) (hd : decode cc pc = .ok (.iload_n k, 1)) (hp : pc + 1 = pc') (hq : L[q]? = some ((k : Nat), vi x)) (k : G X rm own cc nL ret Q pc' L (vi x :: S) M) : G X rm own cc nL ret Q pc L S M := by
  subst hp
  intro hR p e R s m args below meth c H locs ls hF hW hP hS hl
  refine lv_iload_n hF.1 hF.2.1 hd rfl (lv_at hl q hq) ?_
  exact k hR p e R s m args below meth c H locs ls hF hW hP hS hl
theorem g_iload {i : Nat} {x : Int} (q : Nat) (hd : decode cc pc = .ok (.iload i, 2)) (hp : pc + 2 = pc') (hq : L[q]? = some (i, vi x)) (k : G X rm own cc nL ret Q pc' L (vi x :: S) M) : G X rm own cc nL ret Q pc L S M := by
  subst hp
  intro hR p e R s m args below meth c H locs ls hF hW hP hS hl
  refine lv_iload hF.1 hF.2.1 hd (lv_at hl q hq) ?_
  exact k hR p e R s m args below meth c H locs ls hF hW hP hS hl
theorem g_istore_n {k : Fin 4} {i : Nat} {x : Int} {L' : List (Nat × Value)} (hd : decode cc pc = .ok (.istore_n k, 1)) (hp : pc + 1 = pc') (hi : (k : Nat) = i) (hn : i < nL) (hL : (i, vi x) :: L.filter (fun q => !(q.1 == i) && !(q.1 + 1 == i && q.2.category == 2)) = L') (k : G X rm own cc nL ret Q pc' L' S M) : G X rm own cc nL ret Q pc L (vi x :: S) M := by
  subst hp
  intro hR p e R s m args below meth c H locs ls hF hW hP hS hl
  refine lv_istore_n hF.1 hF.2.1 hd hi hl hn hL (fun ls' hl' => ?_)
  exact k hR p e R s m args below meth c H locs ls' hF hW hP hS hl'
theorem g_istore {i : Nat} {x : Int} {L' : List (Nat × Value)} (hd : decode cc pc = .ok (.istore i, 2)) (hp : pc + 2 = pc') (hn : i < nL) (hL : (i, vi x) :: L.filter (fun q => !(q.1 == i) && !(q.1 + 1 == i && q.2.category == 2)) = L') (k : G X rm own cc nL ret Q pc' L' S M) : G X rm own cc nL ret Q pc L (vi x :: S) M := by
  subst hp
  intro hR p e R s m args below meth c H locs ls hF hW hP hS hl
  refine lv_istore hF.1 hF.2.1 hd hl hn hL (fun ls' hl' => ?_)
  exact k hR p e R s m args below meth c H locs ls' hF hW hP hS hl'
theorem g_lload_n {k : Fin 4} {x : Int} (q : Nat) (hd : decode cc pc = .ok (.lload_n k, 1)) (hp : pc + 1 = pc') (hq : L[q]? = some ((k : Nat), vl x)) (k : G X rm own cc nL ret Q pc' L (vl x :: S) M) : G X rm own cc nL ret Q pc L S M := by
  subst hp
  intro hR p e R s m args below meth c H locs ls hF hW hP hS hl
  refine lv_lload_n hF.1 hF.2.1 hd rfl (lv_at hl q hq) ?_
  exact k hR p e R s m args below meth c H locs ls hF hW hP hS hl
theorem g_lload {i : Nat} {x : Int} (q : Nat) (hd : decode cc pc = .ok (.lload i, 2)) (hp : pc + 2 = pc') (hq : L[q]? = some (i, vl x)) (k : G X rm own cc nL ret Q pc' L (vl x :: S) M) : G X rm own cc nL ret Q pc L S M := by
  subst hp
  intro hR p e R s m args below meth c H locs ls hF hW hP hS hl
  refine lv_lload hF.1 hF.2.1 hd (lv_at hl q hq) ?_
  exact k hR p e R s m args below meth c H locs ls hF hW hP hS hl
theorem g_lstore_n {k : Fin 4} {i : Nat} {x : Int} {L' : List (Nat × Value)} (hd : decode cc pc = .ok (.lstore_n k, 1)) (hp : pc + 1 = pc') (hi : (k : Nat) = i) (hn : i + 1 < nL) (hL : (i, vl x) :: L.filter (fun q => !(q.1 == i) && (!(q.1 == i + 1) && !(q.1 + 1 == i && q.2.category == 2))) = L') (k : G X rm own cc nL ret Q pc' L' S M) : G X rm own cc nL ret Q pc L (vl x :: S) M := by
  subst hp
  intro hR p e R s m args below meth c H locs ls hF hW hP hS hl
  refine lv_lstore_n hF.1 hF.2.1 hd hi hl hn hL (fun ls' hl' => ?_)
  exact k hR p e R s m args below meth c H locs ls' hF hW hP hS hl'
theorem g_lstore {i : Nat} {x : Int} {L' : List (Nat × Value)} (hd : decode cc pc = .ok (.lstore i, 2)) (hp : pc + 2 = pc') (hn : i + 1 < nL) (hL : (i, vl x) :: L.filter (fun q => !(q.1 == i) && (!(q.1 == i + 1) && !(q.1 + 1 == i && q.2.category == 2))) = L') (k : G X rm own cc nL ret Q pc' L' S M) : G X rm own cc nL ret Q pc L (vl x :: S) M := by
  subst hp
  intro hR p e R s m args below meth c H locs ls hF hW hP hS hl
  refine lv_lstore hF.1 hF.2.1 hd hl hn hL (fun ls' hl' => ?_)
  exact k hR p e R s m args below meth c H locs ls' hF hW hP hS hl'
theorem g_aload_n {k : Fin 4} {x : Nat} (q : Nat) (hd : decode cc pc = .ok (.aload_n k, 1)) (hp : pc + 1 = pc') (hq : L[q]? = some ((k : Nat), vr X x)) (k : G X rm own cc nL ret Q pc' L (vr X x :: S) M) : G X rm own cc nL ret Q pc L S M := by
  subst hp
  intro hR p e R s m args below meth c H locs ls hF hW hP hS hl
  refine lv_aload_n hF.1 hF.2.1 hd rfl (lv_at hl q hq) ?_
  exact k hR p e R s m args below meth c H locs ls hF hW hP hS hl
theorem g_aload {i : Nat} {x : Nat} (q : Nat) (hd : decode cc pc = .ok (.aload i, 2)) (hp : pc + 2 = pc') (hq : L[q]? = some (i, vr X x)) (k : G X rm own cc nL ret Q pc' L (vr X x :: S) M) : G X rm own cc nL ret Q pc L S M := by
  subst hp
  intro hR p e R s m args below meth c H locs ls hF hW hP hS hl
  refine lv_aload hF.1 hF.2.1 hd (lv_at hl q hq) ?_
  exact k hR p e R s m args below meth c H locs ls hF hW hP hS hl
theorem g_astore_n {k : Fin 4} {i : Nat} {x : Nat} {L' : List (Nat × Value)} (hd : decode cc pc = .ok (.astore_n k, 1)) (hp : pc + 1 = pc') (hi : (k : Nat) = i) (hn : i < nL) (hL : (i, vr X x) :: L.filter (fun q => !(q.1 == i) && !(q.1 + 1 == i && q.2.category == 2)) = L') (k : G X rm own cc nL ret Q pc' L' S M) : G X rm own cc nL ret Q pc L (vr X x :: S) M := by
  subst hp
  intro hR p e R s m args below meth c H locs ls hF hW hP hS hl
  refine lv_astore_n hF.1 hF.2.1 hd hi hl hn hL (fun ls' hl' => ?_)
  exact k hR p e R s m args below meth c H locs ls' hF hW hP hS hl'
theorem g_astore {i : Nat} {x : Nat} {L' : List (Nat × Value)} (hd : decode cc pc = .ok (.astore i, 2)) (hp : pc + 2 = pc') (hn : i < nL) (hL : (i, vr X x) :: L.filter (fun q => !(q.1 == i) && !(q.1 + 1 == i && q.2.category == 2)) = L') (k : G X rm own cc nL ret Q pc' L' S M) : G X rm own cc nL ret Q pc L (vr X x :: S) M := by
  subst hp
  intro hR p e R s m args below meth c H locs ls hF hW hP hS hl
  refine lv_astore hF.1 hF.2.1 hd hl hn hL (fun ls' hl' => ?_)
  exact k hR p e R s m args below meth c H locs ls' hF hW hP hS hl'
theorem g_iinc {i : Nat} {n x : Int} {L' : List (Nat × Value)} (q : Nat) (hd : decode cc pc = .ok (.iinc i n, 3)) (hp : pc + 3 = pc') (hq : L[q]? = some (i, vi x)) (hn : i < nL) (hL : (i, vi (x + n)) :: L.filter (fun q => !(q.1 == i) && !(q.1 + 1 == i && q.2.category == 2)) = L') (k : G X rm own cc nL ret Q pc' L' S M) : G X rm own cc nL ret Q pc L S M := by
  subst hp
  intro hR p e R s m args below meth c H locs ls hF hW hP hS hl
  refine lv_iinc (v := Int32.ofInt (x + n)) hF.1 hF.2.1 hd hl hq (by rw [Int32.ofInt_add]) hn hL (fun ls' hl' => ?_)
  exact k hR p e R s m args below meth c H locs ls' hF hW hP hS hl'
theorem g_iadd {x y : Int} (hd : decode cc pc = .ok (.iadd, 1)) (hp : pc + 1 = pc') (k : G X rm own cc nL ret Q pc' L (vi (x + y) :: S) M) : G X rm own cc nL ret Q pc L (vi y :: vi x :: S) M := by
  subst hp
  intro hR p e R s m args below meth c H locs ls hF hW hP hS hl
  refine lv_iadd hF.1 hF.2.1 hd ?_
  rw [← Int32.ofInt_add]
  exact k hR p e R s m args below meth c H locs ls hF hW hP hS hl
theorem g_isub {x y : Int} (hd : decode cc pc = .ok (.isub, 1)) (hp : pc + 1 = pc') (k : G X rm own cc nL ret Q pc' L (vi (x - y) :: S) M) : G X rm own cc nL ret Q pc L (vi y :: vi x :: S) M := by
  subst hp
  intro hR p e R s m args below meth c H locs ls hF hW hP hS hl
  refine lv_isub hF.1 hF.2.1 hd ?_
  rw [← Int32.ofInt_sub]
  exact k hR p e R s m args below meth c H locs ls hF hW hP hS hl
theorem g_imul {x y : Int} (hd : decode cc pc = .ok (.imul, 1)) (hp : pc + 1 = pc') (k : G X rm own cc nL ret Q pc' L (vi (x * y) :: S) M) : G X rm own cc nL ret Q pc L (vi y :: vi x :: S) M := by
  subst hp
  intro hR p e R s m args below meth c H locs ls hF hW hP hS hl
  refine lv_imul hF.1 hF.2.1 hd ?_
  rw [← Int32.ofInt_mul]
  exact k hR p e R s m args below meth c H locs ls hF hW hP hS hl
theorem g_ladd {x y : Int} (hd : decode cc pc = .ok (.ladd, 1)) (hp : pc + 1 = pc') (k : G X rm own cc nL ret Q pc' L (vl (x + y) :: S) M) : G X rm own cc nL ret Q pc L (vl y :: vl x :: S) M := by
  subst hp
  intro hR p e R s m args below meth c H locs ls hF hW hP hS hl
  refine lv_ladd hF.1 hF.2.1 hd ?_
  rw [← Int64.ofInt_add]
  exact k hR p e R s m args below meth c H locs ls hF hW hP hS hl
theorem g_lsub {x y : Int} (hd : decode cc pc = .ok (.lsub, 1)) (hp : pc + 1 = pc') (k : G X rm own cc nL ret Q pc' L (vl (x - y) :: S) M) : G X rm own cc nL ret Q pc L (vl y :: vl x :: S) M := by
  subst hp
  intro hR p e R s m args below meth c H locs ls hF hW hP hS hl
  refine lv_lsub hF.1 hF.2.1 hd ?_
  rw [← Int64.ofInt_sub]
  exact k hR p e R s m args below meth c H locs ls hF hW hP hS hl
theorem g_lmul {x y : Int} (hd : decode cc pc = .ok (.lmul, 1)) (hp : pc + 1 = pc') (k : G X rm own cc nL ret Q pc' L (vl (x * y) :: S) M) : G X rm own cc nL ret Q pc L (vl y :: vl x :: S) M := by
  subst hp
  intro hR p e R s m args below meth c H locs ls hF hW hP hS hl
  refine lv_lmul hF.1 hF.2.1 hd ?_
  rw [← Int64.ofInt_mul]
  exact k hR p e R s m args below meth c H locs ls hF hW hP hS hl
theorem g_ineg {x : Int} (hd : decode cc pc = .ok (.ineg, 1)) (hp : pc + 1 = pc') (k : G X rm own cc nL ret Q pc' L (vi (-x) :: S) M) : G X rm own cc nL ret Q pc L (vi x :: S) M := by
  subst hp
  intro hR p e R s m args below meth c H locs ls hF hW hP hS hl
  refine lv_ineg hF.1 hF.2.1 hd ?_
  rw [← Int32.ofInt_neg]
  exact k hR p e R s m args below meth c H locs ls hF hW hP hS hl
theorem g_lneg {x : Int} (hd : decode cc pc = .ok (.lneg, 1)) (hp : pc + 1 = pc') (k : G X rm own cc nL ret Q pc' L (vl (-x) :: S) M) : G X rm own cc nL ret Q pc L (vl x :: S) M := by
  subst hp
  intro hR p e R s m args below meth c H locs ls hF hW hP hS hl
  refine lv_lneg hF.1 hF.2.1 hd ?_
  rw [← Int64.ofInt_neg]
  exact k hR p e R s m args below meth c H locs ls hF hW hP hS hl
theorem g_idiv {x y : Int} (hx : inI x) (hy : inI y) (h0 : y ≠ 0) (hd : decode cc pc = .ok (.idiv, 1)) (hp : pc + 1 = pc') (k : G X rm own cc nL ret Q pc' L (vi (x.tdiv y) :: S) M) : G X rm own cc nL ret Q pc L (vi y :: vi x :: S) M := by
  subst hp
  intro hR p e R s m args below meth c H locs ls hF hW hP hS hl
  refine lv_idiv hF.1 hF.2.1 hd (i32_ne0 hy h0) ?_
  rw [i32_div hx hy]
  exact k hR p e R s m args below meth c H locs ls hF hW hP hS hl
theorem g_irem {x y : Int} (hx : inI x) (hy : inI y) (h0 : y ≠ 0) (hd : decode cc pc = .ok (.irem, 1)) (hp : pc + 1 = pc') (k : G X rm own cc nL ret Q pc' L (vi (x.tmod y) :: S) M) : G X rm own cc nL ret Q pc L (vi y :: vi x :: S) M := by
  subst hp
  intro hR p e R s m args below meth c H locs ls hF hW hP hS hl
  refine lv_irem hF.1 hF.2.1 hd (i32_ne0 hy h0) ?_
  rw [i32_rem hx hy]
  exact k hR p e R s m args below meth c H locs ls hF hW hP hS hl
theorem g_ldiv {x y : Int} (hx : inL x) (hy : inL y) (h0 : y ≠ 0) (hd : decode cc pc = .ok (.ldiv, 1)) (hp : pc + 1 = pc') (k : G X rm own cc nL ret Q pc' L (vl (x.tdiv y) :: S) M) : G X rm own cc nL ret Q pc L (vl y :: vl x :: S) M := by
  subst hp
  intro hR p e R s m args below meth c H locs ls hF hW hP hS hl
  refine lv_ldiv hF.1 hF.2.1 hd (i64_ne0 hy h0) ?_
  rw [i64_div hx hy]
  exact k hR p e R s m args below meth c H locs ls hF hW hP hS hl
theorem g_lrem {x y : Int} (hx : inL x) (hy : inL y) (h0 : y ≠ 0) (hd : decode cc pc = .ok (.lrem, 1)) (hp : pc + 1 = pc') (k : G X rm own cc nL ret Q pc' L (vl (x.tmod y) :: S) M) : G X rm own cc nL ret Q pc L (vl y :: vl x :: S) M := by
  subst hp
  intro hR p e R s m args below meth c H locs ls hF hW hP hS hl
  refine lv_lrem hF.1 hF.2.1 hd (i64_ne0 hy h0) ?_
  rw [i64_rem hx hy]
  exact k hR p e R s m args below meth c H locs ls hF hW hP hS hl
theorem g_i2l {x : Int} (hx : inI x) (hd : decode cc pc = .ok (.i2l, 1)) (hp : pc + 1 = pc') (k : G X rm own cc nL ret Q pc' L (vl x :: S) M) : G X rm own cc nL ret Q pc L (vi x :: S) M := by
  subst hp
  intro hR p e R s m args below meth c H locs ls hF hW hP hS hl
  refine lv_i2l hF.1 hF.2.1 hd (i32_l hx) ?_
  exact k hR p e R s m args below meth c H locs ls hF hW hP hS hl
theorem g_l2i {x : Int} (hd : decode cc pc = .ok (.l2i, 1)) (hp : pc + 1 = pc') (k : G X rm own cc nL ret Q pc' L (vi x :: S) M) : G X rm own cc nL ret Q pc L (vl x :: S) M := by
  subst hp
  intro hR p e R s m args below meth c H locs ls hF hW hP hS hl
  refine lv_l2i hF.1 hF.2.1 hd (i64_i x) ?_
  exact k hR p e R s m args below meth c H locs ls hF hW hP hS hl
theorem g_ishr {x y : Int} (hd : decode cc pc = .ok (.ishr, 1)) (hp : pc + 1 = pc') (k : inI (oshr x y) → G X rm own cc nL ret Q pc' L (vi (oshr x y) :: S) M) : G X rm own cc nL ret Q pc L (vi y :: vi x :: S) M := by
  subst hp
  intro hR p e R s m args below meth c H locs ls hF hW hP hS hl
  refine lv_ishr hF.1 hF.2.1 hd ?_
  have k' := k (inI_toInt _) hR p e R s m args below meth c H locs ls hF hW hP hS hl
  unfold oshr vi at k'
  rw [Int32.ofInt_toInt] at k'
  exact k'
theorem g_iand {x y : Int} (hd : decode cc pc = .ok (.iand, 1)) (hp : pc + 1 = pc') (k : inI (oand x y) → G X rm own cc nL ret Q pc' L (vi (oand x y) :: S) M) : G X rm own cc nL ret Q pc L (vi y :: vi x :: S) M := by
  subst hp
  intro hR p e R s m args below meth c H locs ls hF hW hP hS hl
  refine lv_iand hF.1 hF.2.1 hd ?_
  have k' := k (inI_toInt _) hR p e R s m args below meth c H locs ls hF hW hP hS hl
  unfold oand vi at k'
  rw [Int32.ofInt_toInt] at k'
  exact k'
theorem g_nrmI {x : Int} (k : ∀ z, inI z → z = x.bmod 4294967296 → G X rm own cc nL ret Q pc L (vi z :: S) M) : G X rm own cc nL ret Q pc L (vi x :: S) M := by
  have h := k (Int32.ofInt x).toInt (inI_toInt _) Int32.toInt_ofInt
  unfold vi at h ⊢
  rw [Int32.ofInt_toInt] at h
  exact h
theorem g_nrmL {x : Int} (k : ∀ z, inL z → z = x.bmod 18446744073709551616 → G X rm own cc nL ret Q pc L (vl z :: S) M) : G X rm own cc nL ret Q pc L (vl x :: S) M := by
  have h := k (Int64.ofInt x).toInt (inL_toInt _) Int64.toInt_ofInt
  unfold vl at h ⊢
  rw [Int64.ofInt_toInt] at h
  exact h
theorem g_dup {a : Value} (hd : decode cc pc = .ok (.dup, 1)) (hp : pc + 1 = pc') (hca : a.category = 1) (k : G X rm own cc nL ret Q pc' L (a :: a :: S) M) : G X rm own cc nL ret Q pc L (a :: S) M := by
  subst hp
  intro hR p e R s m args below meth c H locs ls hF hW hP hS hl
  refine lv_dup hF.1 hF.2.1 hd hca ?_
  exact k hR p e R s m args below meth c H locs ls hF hW hP hS hl
theorem g_pop {a : Value} (hd : decode cc pc = .ok (.pop, 1)) (hp : pc + 1 = pc') (hca : a.category = 1) (k : G X rm own cc nL ret Q pc' L (S) M) : G X rm own cc nL ret Q pc L (a :: S) M := by
  subst hp
  intro hR p e R s m args below meth c H locs ls hF hW hP hS hl
  refine lv_pop hF.1 hF.2.1 hd hca ?_
  exact k hR p e R s m args below meth c H locs ls hF hW hP hS hl
theorem g_dup_x1 {a b : Value} (hd : decode cc pc = .ok (.dup_x1, 1)) (hp : pc + 1 = pc') (hca : a.category = 1) (hcb : b.category = 1) (k : G X rm own cc nL ret Q pc' L (a :: b :: a :: S) M) : G X rm own cc nL ret Q pc L (a :: b :: S) M := by
  subst hp
  intro hR p e R s m args below meth c H locs ls hF hW hP hS hl
  refine lv_dup_x1 hF.1 hF.2.1 hd hca hcb ?_
  exact k hR p e R s m args below meth c H locs ls hF hW hP hS hl
theorem g_dup_x2 {a b d : Value} (hd : decode cc pc = .ok (.dup_x2, 1)) (hp : pc + 1 = pc') (hca : a.category = 1) (hcb : b.category = 1) (hcd : d.category = 1) (k : G X rm own cc nL ret Q pc' L (a :: b :: d :: a :: S) M) : G X rm own cc nL ret Q pc L (a :: b :: d :: S) M := by
  subst hp
  intro hR p e R s m args below meth c H locs ls hF hW hP hS hl
  refine lv_dup_x2 hF.1 hF.2.1 hd hca hcb hcd ?_
  exact k hR p e R s m args below meth c H locs ls hF hW hP hS hl
theorem g_dup2_11 {a b : Value} (hd : decode cc pc = .ok (.dup2, 1)) (hp : pc + 1 = pc') (hca : a.category = 1) (hcb : b.category = 1) (k : G X rm own cc nL ret Q pc' L (a :: b :: a :: b :: S) M) : G X rm own cc nL ret Q pc L (a :: b :: S) M := by
  subst hp
  intro hR p e R s m args below meth c H locs ls hF hW hP hS hl
  refine lv_dup2_11 hF.1 hF.2.1 hd hca hcb ?_
  exact k hR p e R s m args below meth c H locs ls hF hW hP hS hl
theorem g_dup2_2 {a : Value} (hd : decode cc pc = .ok (.dup2, 1)) (hp : pc + 1 = pc') (ha : a.category = 2) (k : G X rm own cc nL ret Q pc' L (a :: a :: S) M) : G X rm own cc nL ret Q pc L (a :: S) M := by
  subst hp
  intro hR p e R s m args below meth c H locs ls hF hW hP hS hl
  refine lv_dup2_2 hF.1 hF.2.1 hd ha ?_
  exact k hR p e R s m args below meth c H locs ls hF hW hP hS hl
theorem g_pop2_2 {a : Value} (hd : decode cc pc = .ok (.pop2, 1)) (hp : pc + 1 = pc') (ha : a.category = 2) (k : G X rm own cc nL ret Q pc' L S M) : G X rm own cc nL ret Q pc L (a :: S) M := by
  subst hp
  intro hR p e R s m args below meth c H locs ls hF hW hP hS hl
  refine lv_pop2_2 hF.1 hF.2.1 hd ha ?_
  exact k hR p e R s m args below meth c H locs ls hF hW hP hS hl
theorem g_dup2_x1_2 {a b : Value} (hd : decode cc pc = .ok (.dup2_x1, 1)) (hp : pc + 1 = pc') (ha : a.category = 2) (hb : b.category = 1) (k : G X rm own cc nL ret Q pc' L (a :: b :: a :: S) M) : G X rm own cc nL ret Q pc L (a :: b :: S) M := by
  subst hp
  intro hR p e R s m args below meth c H locs ls hF hW hP hS hl
  refine lv_dup2_x1_2 hF.1 hF.2.1 hd ha hb ?_
  exact k hR p e R s m args below meth c H locs ls hF hW hP hS hl
theorem g_goto {off : Int} {tgt : Nat} (hd : decode cc pc = .ok (.goto off, 3)) (ht : (pc : Int) + off = (tgt : Int)) (k : G X rm own cc nL ret Q tgt L S M) : G X rm own cc nL ret Q pc L S M := by
  intro hR p e R s m args below meth c H locs ls hF hW hP hS hl
  refine lv_goto hF.1 hF.2.1 hd ht ?_
  exact k hR p e R s m args below meth c H locs ls hF hW hP hS hl
theorem g_if_eq {x : Int} {off : Int} {tgt : Nat} (hx : inI x) (hd : decode cc pc = .ok (.ifCond .eq off, 3)) (hp : pc + 3 = pc') (ht : (pc : Int) + off = (tgt : Int)) (kt : x = 0 → G X rm own cc nL ret Q tgt L S M) (kf : x ≠ 0 → G X rm own cc nL ret Q pc' L S M) : G X rm own cc nL ret Q pc L (vi x :: S) M := by
  subst hp
  intro hR p e R s m args below meth c H locs ls hF hW hP hS hl
  refine lv_if_eq hF.1 hF.2.1 hd ht (fun h => ?_) (fun h => ?_)
  · exact kt ((c32_eq0 hx).mp h) hR p e R s m args below meth c H locs ls hF hW hP hS hl
  · exact kf (fun z => h ((c32_eq0 hx).mpr z)) hR p e R s m args below meth c H locs ls hF hW hP hS hl
theorem g_ic_eq {x y : Int} {off : Int} {tgt : Nat} (hx : inI x) (hy : inI y) (hd : decode cc pc = .ok (.if_icmp .eq off, 3)) (hp : pc + 3 = pc') (ht : (pc : Int) + off = (tgt : Int)) (kt : x = y → G X rm own cc nL ret Q tgt L S M) (kf : x ≠ y → G X rm own cc nL ret Q pc' L S M) : G X rm own cc nL ret Q pc L (vi y :: vi x :: S) M := by
  subst hp
  intro hR p e R s m args below meth c H locs ls hF hW hP hS hl
  refine lv_icmp_eq hF.1 hF.2.1 hd ht (fun h => ?_) (fun h => ?_)
  · exact kt ((c32_eq hx hy).mp h) hR p e R s m args below meth c H locs ls hF hW hP hS hl
  · exact kf (fun z => h ((c32_eq hx hy).mpr z)) hR p e R s m args below meth c H locs ls hF hW hP hS hl
theorem g_lc_eq {x y : Int} {off : Int} {tgt : Nat} (hx : inL x) (hy : inL y) (hc : decode cc pc = .ok (.lcmp, 1)) (hd : decode cc (pc + 1) = .ok (.ifCond .eq off, 3)) (hp : pc + 4 = pc') (ht : ((pc + 1 : Nat) : Int) + off = (tgt : Int)) (kt : x = y → G X rm own cc nL ret Q tgt L S M) (kf : x ≠ y → G X rm own cc nL ret Q pc' L S M) : G X rm own cc nL ret Q pc L (vl y :: vl x :: S) M := by
  subst hp
  intro hR p e R s m args below meth c H locs ls hF hW hP hS hl
  refine W.lcmp hF.1 hF.2.1 hc ?_
  refine lv_if_eq hF.1 hF.2.1 hd ht (fun h => ?_) (fun h => ?_)
  · exact kt ((c64_eq' hx hy).mp h) hR p e R s m args below meth c H locs ls hF hW hP hS hl
  · exact kf (fun z => h ((c64_eq' hx hy).mpr z)) hR p e R s m args below meth c H locs ls hF hW hP hS hl
theorem g_if_ne {x : Int} {off : Int} {tgt : Nat} (hx : inI x) (hd : decode cc pc = .ok (.ifCond .ne off, 3)) (hp : pc + 3 = pc') (ht : (pc : Int) + off = (tgt : Int)) (kt : x ≠ 0 → G X rm own cc nL ret Q tgt L S M) (kf : x = 0 → G X rm own cc nL ret Q pc' L S M) : G X rm own cc nL ret Q pc L (vi x :: S) M := by
  subst hp
  intro hR p e R s m args below meth c H locs ls hF hW hP hS hl
  refine lv_if_ne hF.1 hF.2.1 hd ht (fun h => ?_) (fun h => ?_)
  · exact kt ((c32_ne0 hx).mp h) hR p e R s m args below meth c H locs ls hF hW hP hS hl
  · exact kf (Decidable.byContradiction (fun z => (c32_ne0 hx).mpr z h)) hR p e R s m args below meth c H locs ls hF hW hP hS hl
theorem g_ic_ne {x y : Int} {off : Int} {tgt : Nat} (hx : inI x) (hy : inI y) (hd : decode cc pc = .ok (.if_icmp .ne off, 3)) (hp : pc + 3 = pc') (ht : (pc : Int) + off = (tgt : Int)) (kt : x ≠ y → G X rm own cc nL ret Q tgt L S M) (kf : x = y → G X rm own cc nL ret Q pc' L S M) : G X rm own cc nL ret Q pc L (vi y :: vi x :: S) M := by
  subst hp
  intro hR p e R s m args below meth c H locs ls hF hW hP hS hl
  refine lv_icmp_ne hF.1 hF.2.1 hd ht (fun h => ?_) (fun h => ?_)
  · exact kt ((c32_ne hx hy).mp h) hR p e R s m args below meth c H locs ls hF hW hP hS hl
  · exact kf (Decidable.byContradiction (fun z => (c32_ne hx hy).mpr z h)) hR p e R s m args below meth c H locs ls hF hW hP hS hl
theorem g_lc_ne {x y : Int} {off : Int} {tgt : Nat} (hx : inL x) (hy : inL y) (hc : decode cc pc = .ok (.lcmp, 1)) (hd : decode cc (pc + 1) = .ok (.ifCond .ne off, 3)) (hp : pc + 4 = pc') (ht : ((pc + 1 : Nat) : Int) + off = (tgt : Int)) (kt : x ≠ y → G X rm own cc nL ret Q tgt L S M) (kf : x = y → G X rm own cc nL ret Q pc' L S M) : G X rm own cc nL ret Q pc L (vl y :: vl x :: S) M := by
  subst hp
  intro hR p e R s m args below meth c H locs ls hF hW hP hS hl
  refine W.lcmp hF.1 hF.2.1 hc ?_
  refine lv_if_ne hF.1 hF.2.1 hd ht (fun h => ?_) (fun h => ?_)
  · exact kt ((c64_ne hx hy).mp h) hR p e R s m args below meth c H locs ls hF hW hP hS hl
  · exact kf (Decidable.byContradiction (fun z => (c64_ne hx hy).mpr z h)) hR p e R s m args below meth c H locs ls hF hW hP hS hl
theorem g_if_lt {x : Int} {off : Int} {tgt : Nat} (hx : inI x) (hd : decode cc pc = .ok (.ifCond .lt off, 3)) (hp : pc + 3 = pc') (ht : (pc : Int) + off = (tgt : Int)) (kt : x < 0 → G X rm own cc nL ret Q tgt L S M) (kf : 0 ≤ x → G X rm own cc nL ret Q pc' L S M) : G X rm own cc nL ret Q pc L (vi x :: S) M := by
  subst hp
  intro hR p e R s m args below meth c H locs ls hF hW hP hS hl
  refine lv_if_lt hF.1 hF.2.1 hd ht (fun h => ?_) (fun h => ?_)
  · exact kt ((c32_lt0 hx).mp h) hR p e R s m args below meth c H locs ls hF hW hP hS hl
  · exact kf (Int.not_lt.mp (fun z => h ((c32_lt0 hx).mpr z))) hR p e R s m args below meth c H locs ls hF hW hP hS hl
theorem g_ic_lt {x y : Int} {off : Int} {tgt : Nat} (hx : inI x) (hy : inI y) (hd : decode cc pc = .ok (.if_icmp .lt off, 3)) (hp : pc + 3 = pc') (ht : (pc : Int) + off = (tgt : Int)) (kt : x < y → G X rm own cc nL ret Q tgt L S M) (kf : y ≤ x → G X rm own cc nL ret Q pc' L S M) : G X rm own cc nL ret Q pc L (vi y :: vi x :: S) M := by
  subst hp
  intro hR p e R s m args below meth c H locs ls hF hW hP hS hl
  refine lv_icmp_lt hF.1 hF.2.1 hd ht (fun h => ?_) (fun h => ?_)
  · exact kt ((c32_lt hx hy).mp h) hR p e R s m args below meth c H locs ls hF hW hP hS hl
  · exact kf (Int.not_lt.mp (fun z => h ((c32_lt hx hy).mpr z))) hR p e R s m args below meth c H locs ls hF hW hP hS hl
theorem g_lc_lt {x y : Int} {off : Int} {tgt : Nat} (hx : inL x) (hy : inL y) (hc : decode cc pc = .ok (.lcmp, 1)) (hd : decode cc (pc + 1) = .ok (.ifCond .lt off, 3)) (hp : pc + 4 = pc') (ht : ((pc + 1 : Nat) : Int) + off = (tgt : Int)) (kt : x < y → G X rm own cc nL ret Q tgt L S M) (kf : y ≤ x → G X rm own cc nL ret Q pc' L S M) : G X rm own cc nL ret Q pc L (vl y :: vl x :: S) M := by
  subst hp
  intro hR p e R s m args below meth c H locs ls hF hW hP hS hl
  refine W.lcmp hF.1 hF.2.1 hc ?_
  refine lv_if_lt hF.1 hF.2.1 hd ht (fun h => ?_) (fun h => ?_)
  · exact kt ((c64_lt hx hy).mp h) hR p e R s m args below meth c H locs ls hF hW hP hS hl
  · exact kf (Int.not_lt.mp (fun z => h ((c64_lt hx hy).mpr z))) hR p e R s m args below meth c H locs ls hF hW hP hS hl
theorem g_if_ge {x : Int} {off : Int} {tgt : Nat} (hx : inI x) (hd : decode cc pc = .ok (.ifCond .ge off, 3)) (hp : pc + 3 = pc') (ht : (pc : Int) + off = (tgt : Int)) (kt : 0 ≤ x → G X rm own cc nL ret Q tgt L S M) (kf : x < 0 → G X rm own cc nL ret Q pc' L S M) : G X rm own cc nL ret Q pc L (vi x :: S) M := by
  subst hp
  intro hR p e R s m args below meth c H locs ls hF hW hP hS hl
  refine lv_if_ge hF.1 hF.2.1 hd ht (fun h => ?_) (fun h => ?_)
  · exact kt ((c32_ge0 hx).mp h) hR p e R s m args below meth c H locs ls hF hW hP hS hl
  · exact kf (Int.not_le.mp (fun z => h ((c32_ge0 hx).mpr z))) hR p e R s m args below meth c H locs ls hF hW hP hS hl
theorem g_ic_ge {x y : Int} {off : Int} {tgt : Nat} (hx : inI x) (hy : inI y) (hd : decode cc pc = .ok (.if_icmp .ge off, 3)) (hp : pc + 3 = pc') (ht : (pc : Int) + off = (tgt : Int)) (kt : y ≤ x → G X rm own cc nL ret Q tgt L S M) (kf : x < y → G X rm own cc nL ret Q pc' L S M) : G X rm own cc nL ret Q pc L (vi y :: vi x :: S) M := by
  subst hp
  intro hR p e R s m args below meth c H locs ls hF hW hP hS hl
  refine lv_icmp_ge hF.1 hF.2.1 hd ht (fun h => ?_) (fun h => ?_)
  · exact kt ((c32_ge hx hy).mp h) hR p e R s m args below meth c H locs ls hF hW hP hS hl
  · exact kf (Int.not_le.mp (fun z => h ((c32_ge hx hy).mpr z))) hR p e R s m args below meth c H locs ls hF hW hP hS hl
theorem g_lc_ge {x y : Int} {off : Int} {tgt : Nat} (hx : inL x) (hy : inL y) (hc : decode cc pc = .ok (.lcmp, 1)) (hd : decode cc (pc + 1) = .ok (.ifCond .ge off, 3)) (hp : pc + 4 = pc') (ht : ((pc + 1 : Nat) : Int) + off = (tgt : Int)) (kt : y ≤ x → G X rm own cc nL ret Q tgt L S M) (kf : x < y → G X rm own cc nL ret Q pc' L S M) : G X rm own cc nL ret Q pc L (vl y :: vl x :: S) M := by
  subst hp
  intro hR p e R s m args below meth c H locs ls hF hW hP hS hl
  refine W.lcmp hF.1 hF.2.1 hc ?_
  refine lv_if_ge hF.1 hF.2.1 hd ht (fun h => ?_) (fun h => ?_)
  · exact kt ((c64_ge hx hy).mp h) hR p e R s m args below meth c H locs ls hF hW hP hS hl
  · exact kf (Int.not_le.mp (fun z => h ((c64_ge hx hy).mpr z))) hR p e R s m args below meth c H locs ls hF hW hP hS hl
theorem g_if_gt {x : Int} {off : Int} {tgt : Nat} (hx : inI x) (hd : decode cc pc = .ok (.ifCond .gt off, 3)) (hp : pc + 3 = pc') (ht : (pc : Int) + off = (tgt : Int)) (kt : 0 < x → G X rm own cc nL ret Q tgt L S M) (kf : x ≤ 0 → G X rm own cc nL ret Q pc' L S M) : G X rm own cc nL ret Q pc L (vi x :: S) M := by
  subst hp
  intro hR p e R s m args below meth c H locs ls hF hW hP hS hl
  refine lv_if_gt hF.1 hF.2.1 hd ht (fun h => ?_) (fun h => ?_)
  · exact kt ((c32_gt0 hx).mp h) hR p e R s m args below meth c H locs ls hF hW hP hS hl
  · exact kf (Int.not_lt.mp (fun z => h ((c32_gt0 hx).mpr z))) hR p e R s m args below meth c H locs ls hF hW hP hS hl
theorem g_ic_gt {x y : Int} {off : Int} {tgt : Nat} (hx : inI x) (hy : inI y) (hd : decode cc pc = .ok (.if_icmp .gt off, 3)) (hp : pc + 3 = pc') (ht : (pc : Int) + off = (tgt : Int)) (kt : y < x → G X rm own cc nL ret Q tgt L S M) (kf : x ≤ y → G X rm own cc nL ret Q pc' L S M) : G X rm own cc nL ret Q pc L (vi y :: vi x :: S) M := by
  subst hp
  intro hR p e R s m args below meth c H locs ls hF hW hP hS hl
  refine lv_icmp_gt hF.1 hF.2.1 hd ht (fun h => ?_) (fun h => ?_)
  · exact kt ((c32_gt hx hy).mp h) hR p e R s m args below meth c H locs ls hF hW hP hS hl
  · exact kf (Int.not_lt.mp (fun z => h ((c32_gt hx hy).mpr z))) hR p e R s m args below meth c H locs ls hF hW hP hS hl
theorem g_lc_gt {x y : Int} {off : Int} {tgt : Nat} (hx : inL x) (hy : inL y) (hc : decode cc pc = .ok (.lcmp, 1)) (hd : decode cc (pc + 1) = .ok (.ifCond .gt off, 3)) (hp : pc + 4 = pc') (ht : ((pc + 1 : Nat) : Int) + off = (tgt : Int)) (kt : y < x → G X rm own cc nL ret Q tgt L S M) (kf : x ≤ y → G X rm own cc nL ret Q pc' L S M) : G X rm own cc nL ret Q pc L (vl y :: vl x :: S) M := by
  subst hp
  intro hR p e R s m args below meth c H locs ls hF hW hP hS hl
  refine W.lcmp hF.1 hF.2.1 hc ?_
  refine lv_if_gt hF.1 hF.2.1 hd ht (fun h => ?_) (fun h => ?_)
  · exact kt ((c64_gt hx hy).mp h) hR p e R s m args below meth c H locs ls hF hW hP hS hl
  · exact kf (Int.not_lt.mp (fun z => h ((c64_gt hx hy).mpr z))) hR p e R s m args below meth c H locs ls hF hW hP hS hl
theorem g_if_le {x : Int} {off : Int} {tgt : Nat} (hx : inI x) (hd : decode cc pc = .ok (.ifCond .le off, 3)) (hp : pc + 3 = pc') (ht : (pc : Int) + off = (tgt : Int)) (kt : x ≤ 0 → G X rm own cc nL ret Q tgt L S M) (kf : 0 < x → G X rm own cc nL ret Q pc' L S M) : G X rm own cc nL ret Q pc L (vi x :: S) M := by
  subst hp
  intro hR p e R s m args below meth c H locs ls hF hW hP hS hl
  refine lv_if_le hF.1 hF.2.1 hd ht (fun h => ?_) (fun h => ?_)
  · exact kt ((c32_le0 hx).mp h) hR p e R s m args below meth c H locs ls hF hW hP hS hl
  · exact kf (Int.not_le.mp (fun z => h ((c32_le0 hx).mpr z))) hR p e R s m args below meth c H locs ls hF hW hP hS hl
theorem g_ic_le {x y : Int} {off : Int} {tgt : Nat} (hx : inI x) (hy : inI y) (hd : decode cc pc = .ok (.if_icmp .le off, 3)) (hp : pc + 3 = pc') (ht : (pc : Int) + off = (tgt : Int)) (kt : x ≤ y → G X rm own cc nL ret Q tgt L S M) (kf : y < x → G X rm own cc nL ret Q pc' L S M) : G X rm own cc nL ret Q pc L (vi y :: vi x :: S) M := by
  subst hp
  intro hR p e R s m args below meth c H locs ls hF hW hP hS hl
  refine lv_icmp_le hF.1 hF.2.1 hd ht (fun h => ?_) (fun h => ?_)
  · exact kt ((c32_le hx hy).mp h) hR p e R s m args below meth c H locs ls hF hW hP hS hl
  · exact kf (Int.not_le.mp (fun z => h ((c32_le hx hy).mpr z))) hR p e R s m args below meth c H locs ls hF hW hP hS hl
theorem g_lc_le {x y : Int} {off : Int} {tgt : Nat} (hx : inL x) (hy : inL y) (hc : decode cc pc = .ok (.lcmp, 1)) (hd : decode cc (pc + 1) = .ok (.ifCond .le off, 3)) (hp : pc + 4 = pc') (ht : ((pc + 1 : Nat) : Int) + off = (tgt : Int)) (kt : x ≤ y → G X rm own cc nL ret Q tgt L S M) (kf : y < x → G X rm own cc nL ret Q pc' L S M) : G X rm own cc nL ret Q pc L (vl y :: vl x :: S) M := by
  subst hp
  intro hR p e R s m args below meth c H locs ls hF hW hP hS hl
  refine W.lcmp hF.1 hF.2.1 hc ?_
  refine lv_if_le hF.1 hF.2.1 hd ht (fun h => ?_) (fun h => ?_)
  · exact kt ((c64_le hx hy).mp h) hR p e R s m args below meth c H locs ls hF hW hP hS hl
  · exact kf (Int.not_le.mp (fun z => h ((c64_le hx hy).mpr z))) hR p e R s m args below meth c H locs ls hF hW hP hS hl
theorem g_ireturn {x : Int} {post : Int → Mm → Prop} (hd : decode cc pc = .ok (.ireturn, 1)) (hq : post x M) : G X rm own cc nL (some .int) (Qi post) pc L [vi x] M := by
  intro hR p e R s m args below meth c H locs ls hF hW hP hS hl
  exact W.iret hF.1 hF.2.1 hF.2.2.1 (fun t ht _ => ⟨_, M, rfl, ⟨x, rfl, hq⟩, hR, by rw [ht]; exact hP, hS.F ht⟩) hS.2.2 hd hF.2.2.2.2.2.2.1
theorem g_zreturn {x : Int} {post : Int → Mm → Prop} (hd : decode cc pc = .ok (.ireturn, 1)) (hx : x = 0 ∨ x = 1) (hq : post x M) : G X rm own cc nL (some .boolean) (Qi post) pc L [vi x] M := by
  intro hR p e R s m args below meth c H locs ls hF hW hP hS hl
  exact W.zret hF.1 hF.2.1 hF.2.2.1 (by rcases hx with rfl | rfl <;> rfl) (fun t ht _ => ⟨_, M, rfl, ⟨x, rfl, hq⟩, hR, by rw [ht]; exact hP, hS.F ht⟩) hS.2.2 hd hF.2.2.2.2.2.2.1
theorem g_lreturn {x : Int} {post : Int → Mm → Prop} (hd : decode cc pc = .ok (.lreturn, 1)) (hq : post x M) : G X rm own cc nL (some .long) (Ql post) pc L [vl x] M := by
  intro hR p e R s m args below meth c H locs ls hF hW hP hS hl
  exact W.lret hF.1 hF.2.1 hF.2.2.1 (fun t ht _ => ⟨_, M, rfl, ⟨x, rfl, hq⟩, hR, by rw [ht]; exact hP, hS.F ht⟩) hS.2.2 hd hF.2.2.2.2.2.2.1
theorem g_vreturn {post : Mm → Prop} (hd : decode cc pc = .ok (.return_, 1)) (hq : post M) : G X rm own cc nL none (Qv post) pc L [] M := by
  intro hR p e R s m args below meth c H locs ls hF hW hP hS hl
  exact W.vret hF.1 hF.2.1 hF.2.2.1 (fun t ht _ => ⟨_, M, rfl, ⟨rfl, hq⟩, hR, by rw [ht]; exact hP, hS.F ht⟩) hS.2.2 hd hF.2.2.2.2.2.2.1
end GR
