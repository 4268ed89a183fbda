/-! the JDK's String over the constants -/
def vb (X : Cx) (j : Nat) : Value := .ref (X.2.2.2.2.2 j)
/-- the letter at a place of a constant -/
def sch (j : Nat) (k : Int) : Int := ((sByt.getD j []).getD k.toNat 0).toInt
theorem sl_of : ∀ j, j < 14 → Int32.ofNat (sLen.getD j 0) = Int32.ofInt ((sLen.getD j 0 : Nat) : Int) := by decide +kernel
theorem sl_shr : ∀ j, j < 14 → oshr ((sLen.getD j 0 : Nat) : Int) 0 = ((sLen.getD j 0 : Nat) : Int) := by decide +kernel
theorem sl_b : ∀ j, j < 14 → sLen.getD j 0 ≤ 5 := by decide +kernel
theorem sch_a : ∀ j, j < 14 → ∀ k, k < 5 → ((sByt.getD j []).getD k 0) &&& 255 = (sByt.getD j []).getD k 0 := by decide +kernel
theorem sch_b {j : Nat} (hj : j < 14) {k : Int} (h0 : 0 ≤ k) (h1 : k < ((sLen.getD j 0 : Nat) : Int)) : oand (sch j k) 255 = sch j k ∧ Int32.ofInt (sch j k) = (sByt.getD j []).getD k.toNat 0 := by
  have hb := sl_b j hj
  have e : Int32.ofInt (sch j k) = (sByt.getD j []).getD k.toNat 0 := Int32.ofInt_toInt _
  refine ⟨?_, e⟩
  unfold oand
  rw [e, show Int32.ofInt 255 = 255 from rfl, sch_a j hj _ (by omega)]
  rfl
section GS
variable {X : Cx} {rm : Nat} {own : String} {cc : ByteArray} {nL : Nat} {ret : Option FieldType} {Q : Option Value → Mm → Prop} {pc pc' : Nat} {L : List (Nat × Value)} {S : List Value} {M : Mm}
theorem s_val {i j : Nat} (hj : j < 14) (hd : decode cc pc = .ok (.getfield i, 3)) (hp : pc + 3 = pc') (hf : Cond.fieldLink own i "java/lang/String" "value" "[B" ∈ tb) (kt : G X rm own cc nL ret Q pc' L (vb X j :: S) M) : G X rm own cc nL ret Q pc L (vs X j :: S) M := by
  subst hp
  intro hR p e R s m args below meth c0 H locs ls hF hW hP hS hl
  have k' := kt hR p e R s m args below meth c0 H locs ls hF hW hP hS hl
  exact vk_getf hF.1 hF.2.1 (hW.2.2.2.1.1 j hj).2.2.1 hS hF.2.2.2.2.1 (hF.2.2.2.2.2.1 _ hf) (fun _ h9 => h9) hd k'
theorem s_cod {i j : Nat} (hj : j < 14) (hd : decode cc pc = .ok (.getfield i, 3)) (hp : pc + 3 = pc') (hf : Cond.fieldLink own i "java/lang/String" "coder" "B" ∈ tb) (kt : G X rm own cc nL ret Q pc' L (vi 0 :: S) M) : G X rm own cc nL ret Q pc L (vs X j :: S) M := by
  subst hp
  intro hR p e R s m args below meth c0 H locs ls hF hW hP hS hl
  have k' := kt hR p e R s m args below meth c0 H locs ls hF hW hP hS hl
  exact vk_getf hF.1 hF.2.1 (hW.2.2.2.1.1 j hj).2.1 hS hF.2.2.2.2.1 (hF.2.2.2.2.2.1 _ hf) (fun _ h9 => h9) hd k'
theorem s_cmp {i : Nat} (hd : decode cc pc = .ok (.getstatic i, 3)) (hp : pc + 3 = pc') (hf : Cond.fieldLink own i "java/lang/String" "COMPACT_STRINGS" "Z" ∈ tb) (kt : G X rm own cc nL ret Q pc' L (vi 1 :: S) M) : G X rm own cc nL ret Q pc L S M := by
  subst hp
  intro hR p e R s m args below meth c0 H locs ls hF hW hP hS hl
  have k' := kt hR p e R s m args below meth c0 H locs ls hF hW hP hS hl
  exact va_gets hF.1 hF.2.1 hW.2.2.2.2.2.1 hS hF.2.2.2.2.1 (hF.2.2.2.2.2.1 _ hf) (fun _ h9 => h9) hd k'
theorem s_fmt {i : Nat} (hd : decode cc pc = .ok (.getstatic i, 3)) (hp : pc + 3 = pc') (hf : Cond.fieldLink own i "jdk/internal/util/Preconditions" "SIOOBE_FORMATTER" "Ljava/util/function/BiFunction;" ∈ tb) (kt : ∀ v : Value, (v = .null ∨ ∃ t : Nat, v = .ref t) → G X rm own cc nL ret Q pc' L (v :: S) M) : G X rm own cc nL ret Q pc L S M := by
  subst hp
  intro hR p e R s m args below meth c0 H locs ls hF hW hP hS hl
  rcases hW.2.2.2.2.2.2 with h | ⟨t, h⟩
  · have k' := kt _ (Or.inl rfl) hR p e R s m args below meth c0 H locs ls hF hW hP hS hl
    exact va_gets hF.1 hF.2.1 h hS hF.2.2.2.2.1 (hF.2.2.2.2.2.1 _ hf) (fun _ h9 => h9) hd k'
  · have k' := kt _ (Or.inr ⟨t, rfl⟩) hR p e R s m args below meth c0 H locs ls hF hW hP hS hl
    exact va_gets hF.1 hF.2.1 h hS hF.2.2.2.2.1 (hF.2.2.2.2.2.1 _ hf) (fun _ h9 => h9) hd k'
theorem s_alen {j : Nat} (hj : j < 14) (hd : decode cc pc = .ok (.arraylength, 1)) (hp : pc + 1 = pc') (kt : G X rm own cc nL ret Q pc' L (vi ((sLen.getD j 0 : Nat) : Int) :: S) M) : G X rm own cc nL ret Q pc L (vb X j :: S) M := by
  subst hp
  intro hR p e R s m args below meth c0 H locs ls hF hW hP hS hl
  have k' := kt hR p e R s m args below meth c0 H locs ls hF hW hP hS hl
  exact va_tlen hF.1 hF.2.1 (hW.2.2.2.1.1 j hj).2.2.2 hS (sl_of j hj) hd k'
theorem s_bald {j : Nat} {k : Int} (hj : j < 14) (hd : decode cc pc = .ok (.baload, 1)) (hp : pc + 1 = pc') (h0 : 0 ≤ k) (h1 : k < ((sLen.getD j 0 : Nat) : Int)) (kt : G X rm own cc nL ret Q pc' L (vi (sch j k) :: S) M) : G X rm own cc nL ret Q pc L (vi k :: vb X j :: S) M := by
  subst hp
  intro hR p e R s m args below meth c0 H locs ls hF hW hP hS hl
  have k' := kt hR p e R s m args below meth c0 H locs ls hF hW hP hS hl
  have hb := sl_b j hj
  obtain ⟨h2, h3⟩ := ix32 h0 h1 (by omega)
  refine va_tb hF.1 hF.2.1 (hW.2.2.2.1.1 j hj).2.2.2 hS h2 (v := vi (sch j k)) ?_ hd k'
  rw [h3]
  show Value.int _ = Value.int _
  rw [(sch_b hj h0 h1).2]
theorem s_bload_n {k : Fin 4} {x : Nat} (q : Nat) (hd : decode cc pc = .ok (.aload_n k, 1)) (hp : pc + 1 = pc') (hq : L[q]? = some ((k : Nat), vb X x)) (k : G X rm own cc nL ret Q pc' L (vb X x :: S) M) : G X rm own cc nL ret Q pc L S M := by
  subst hp
  intro hR p e R s m args below meth c H locs ls hF hW hP hS hl
  refine lv_aload_n hF.1 hF.2.1 hd rfl (lv_at hl q hq) ?_
  exact k hR p e R s m args below meth c H locs ls hF hW hP hS hl
theorem s_i2c {x : Int} (hd : decode cc pc = .ok (.i2c, 1)) (hp : pc + 1 = pc') (hx : oand x 255 = x) (kt : G X rm own cc nL ret Q pc' L (vi x :: S) M) : G X rm own cc nL ret Q pc L (vi x :: S) M := by
  subst hp
  intro hR p e R s m args below meth c H locs ls hF hW hP hS hl
  have k' := kt hR p e R s m args below meth c H locs ls hF hW hP hS hl
  have e1 : Int32.ofInt x = Int32.ofInt x &&& 255 := by
    have h := congrArg Int32.ofInt hx
    unfold oand at h
    rw [Int32.ofInt_toInt, show Int32.ofInt 255 = 255 from rfl] at h
    exact h.symm
  exact lv_i2c hF.1 hF.2.1 hd (by rw [e1]; exact sc_c2 _) k'
theorem s_nret {x : Int} {ty : FieldType} {post : Int → Mm → Prop} (hd : decode cc pc = .ok (.ireturn, 1)) (hn : narrow ty (.int (Int32.ofInt x)) = .int (Int32.ofInt x)) (hq : post x M) : G X rm own cc nL (some ty) (Qi post) pc L [vi x] M := by
  intro hR p e R s m args below meth c H locs ls hF hW hP hS hl
  exact W.zret hF.1 hF.2.1 hF.2.2.1 hn (fun t ht _ => ⟨_, M, rfl, ⟨x, rfl, hq⟩, hR, by rw [ht]; exact hP, hS.F ht⟩) hS.2.2 hd hF.2.2.2.2.2.2.1
theorem s_cret {x : Int} {post : Int → Mm → Prop} (hd : decode cc pc = .ok (.ireturn, 1)) (hx : oand x 255 = x) (hq : post x M) : G X rm own cc nL (some .char) (Qi post) pc L [vi x] M := by
  have e1 : Int32.ofInt x = Int32.ofInt x &&& 255 := by
    have h := congrArg Int32.ofInt hx
    unfold oand at h
    rw [Int32.ofInt_toInt, show Int32.ofInt 255 = 255 from rfl] at h
    exact h.symm
  exact s_nret hd (by rw [e1]; exact sc_nar _) hq
theorem g_callW {i n d nL' j : Nat} {y : MethodName} {cc' : ByteArray} {ret' : Option FieldType} {As St : List Value} {post : Int → Prop} (hj : j < 14) (hy : y.cls = "java/lang/String") (hd : decode cc pc = .ok (.invokevirtual i, 3)) (hp : pc + 3 = pc') (hm : lmV own i y n) (hcode : Cond.code y cc' nL' ret' ∈ tb) (hc : Con X d y cc' nL' ret' (vs X j :: As) M (Qi (fun r M1 => M1 = M ∧ post r))) (hn : As.length = n) (hr : d + 1 ≤ rm) (hnL : nL' ≤ 45) (hst : St = As.reverse ++ vs X j :: S) (hw : (S.map fun v => v.category).sum ≤ 8)
    (kk : ∀ (x : Int), post x → G X rm own cc nL ret Q pc' L (vi x :: S) M) : G X rm own cc nL ret Q pc L St M := by
  subst hp; subst hst
  intro hR p e R s m args below meth c0 H locs ls hF hW hP hS hl
  obtain ⟨⟨hdd, hini, hlk⟩, hins, hsel⟩ := hm
  obtain ⟨hx, hb, hret, hml, hown, hts, hlo, hRm⟩ := id hF
  have hM := hc hR
  have hroom : (rmo d).frames + 1 ≤ R.frames ∧ 8 + (nL' + 11) + (rmo d).locals ≤ R.locals := by rw [hRm]; exact rmo_ok hr hnL
  have hpre : PreV s H y.cls (X.2.2.2.2.1 j) (va_Pc (vs X j :: As) (fun U => Wo X U ∧ va_P X.2.2.1 cls (wd X M) U.heap)) As :=
    ⟨pc_blind X _ M, by rw [hy]; exact vk_recv hW.2.2.2.1 hj hS, fun U hU hWU => ⟨rfl, hW.step hWU (by rw [hU]; exact hS), by rw [hU]; exact hP⟩⟩
  refine g_run (Q' := Qi (fun r M1 => M1 = M ∧ post r)) (rest := S) (a := (Value.ref (X.2.2.2.2.1 j) :: As).toArray) ?_ hS (fun v M' H1 locs1 hq hRg hP1 hS1 => ?_)
  · rcases hlk with h | ⟨host, h⟩
    · exact va_runV (C := y.cls) (n := n) ⟨hx, hb, hml, hown, hts⟩ hM ⟨callB_of n hts (yw_good hcode) rfl rfl rfl (hts _ hini) (hts _ h) hdd hroom, hts _ hins, hts _ hsel⟩ hpre rfl hn hl.1 rfl (lv_room hw) hd ⟨Nat.zero_le _, Nat.zero_le _⟩
    · exact va_runVN (C := y.cls) (host := host) (n := n) ⟨hx, hb, hml, hown, hts⟩ hM ⟨va_cnB n hts (yw_good hcode) rfl rfl rfl (hW.2.2.1 _ h) (hts _ hini) hdd hroom, hts _ hins, hts _ hsel⟩ hpre rfl hn hl.1 rfl (lv_room hw) hd ⟨Nat.zero_le _, Nat.zero_le _⟩
  · obtain ⟨x, rfl, rfl, hq⟩ := hq
    exact kk x hq hRg p e R s m args below meth c0 H1 locs1 ls hF hW hP1 hS1 hl
end GS

theorem fs_9 : Cond.fieldLink RJ0 9 "java/lang/String" "value" "[B" ∈ tb := tbm (wl_in32 _ (List.mem_of_getElem? (i := 6) rfl)) rfl
theorem fs_15 : Cond.fieldLink RJ0 15 "java/lang/String" "coder" "B" ∈ tb := tbm (wl_in32 _ (List.mem_of_getElem? (i := 7) rfl)) rfl
theorem fs_38 : Cond.fieldLink RJ0 38 "java/lang/String" "COMPACT_STRINGS" "Z" ∈ tb := tbm (wl_in11 _ (List.mem_of_getElem? (i := 49) rfl)) rfl
theorem fs_1053 : Cond.fieldLink RJ0 1053 "jdk/internal/util/Preconditions" "SIOOBE_FORMATTER" "Ljava/util/function/BiFunction;" ∈ tb := tbm (wl_in12 _ (List.mem_of_getElem? (i := 15) rfl)) rfl
theorem ne_java_lang_String : "java/lang/String" ≠ "java/lang/invoke/MethodHandle" ∧ "java/lang/String" ≠ "java/lang/invoke/VarHandle" := by decide +kernel
theorem pd___B_3 : (parseMethodDescriptor "()B").map (fun d => d.parameters.length) = some 0 := by decide +kernel
theorem m_J0_335 : lmV RJ0 335 yJ0_coder_7d493 0 := ⟨⟨⟨ne_java_lang_String.1, ne_java_lang_String.2, pd___B_3⟩, tbm (wl_in0 _ (List.mem_of_getElem? (i := 13) rfl)) rfl, Or.inl (tbm (wl_in11 _ (List.mem_of_getElem? (i := 45) rfl)) rfl)⟩, tbm (wl_in11 _ (List.mem_of_getElem? (i := 46) rfl)) rfl, tbm (wl_in11 _ (List.mem_of_getElem? (i := 47) rfl)) rfl⟩
theorem pd___Z_3 : (parseMethodDescriptor "()Z").map (fun d => d.parameters.length) = some 0 := by decide +kernel
theorem m_J0_492 : lmV RJ0 492 yJ0_isLatin1_aae02 0 := ⟨⟨⟨ne_java_lang_String.1, ne_java_lang_String.2, pd___Z_3⟩, tbm (wl_in0 _ (List.mem_of_getElem? (i := 13) rfl)) rfl, Or.inl (tbm (wl_in12 _ (List.mem_of_getElem? (i := 5) rfl)) rfl)⟩, tbm (wl_in12 _ (List.mem_of_getElem? (i := 6) rfl)) rfl, tbm (wl_in12 _ (List.mem_of_getElem? (i := 7) rfl)) rfl⟩
theorem ne_java_lang_StringLatin1 : "java/lang/StringLatin1" ≠ "java/lang/invoke/MethodHandle" ∧ "java/lang/StringLatin1" ≠ "java/lang/invoke/VarHandle" := by decide +kernel
theorem pd___BI_C_6 : (parseMethodDescriptor "([BI)C").map (fun d => d.parameters.length) = some 2 := by decide +kernel
theorem m_J0_495 : lmS RJ0 495 yJ1_charAt_3b067 2 := ⟨⟨⟨ne_java_lang_StringLatin1.1, ne_java_lang_StringLatin1.2, pd___BI_C_6⟩, tbm (wl_in0 _ (List.mem_of_getElem? (i := 14) rfl)) rfl, Or.inl (tbm (wl_in12 _ (List.mem_of_getElem? (i := 9) rfl)) rfl)⟩, tbm (wl_in12 _ (List.mem_of_getElem? (i := 10) rfl)) rfl⟩
theorem m_J1_9 : lmS RJ1 9 yJ0_checkIndex_df160 2 := ⟨⟨⟨ne_java_lang_String.1, ne_java_lang_String.2, pd__II_V_5⟩, tbm (wl_in0 _ (List.mem_of_getElem? (i := 13) rfl)) rfl, Or.inl (tbm (wl_in12 _ (List.mem_of_getElem? (i := 12) rfl)) rfl)⟩, tbm (wl_in12 _ (List.mem_of_getElem? (i := 13) rfl)) rfl⟩
theorem ne_jdk_internal_util_Preconditions : "jdk/internal/util/Preconditions" ≠ "java/lang/invoke/MethodHandle" ∧ "jdk/internal/util/Preconditions" ≠ "java/lang/invoke/VarHandle" := by decide +kernel
theorem pd__IILjava_util_function_BiFunction__I_36 : (parseMethodDescriptor "(IILjava/util/function/BiFunction;)I").map (fun d => d.parameters.length) = some 3 := by decide +kernel
theorem m_J0_1059 : lmS RJ0 1059 yJ3_checkIndex_8e157 3 := ⟨⟨⟨ne_jdk_internal_util_Preconditions.1, ne_jdk_internal_util_Preconditions.2, pd__IILjava_util_function_BiFunction__I_36⟩, tbm (wl_in0 _ (List.mem_of_getElem? (i := 15) rfl)) rfl, Or.inl (tbm (wl_in12 _ (List.mem_of_getElem? (i := 17) rfl)) rfl)⟩, tbm (wl_in12 _ (List.mem_of_getElem? (i := 18) rfl)) rfl⟩
theorem w_J0_coder_7d493 : Cond.code yJ0_coder_7d493 cJ0_coder_7d493 1 (some .byte) ∈ tb := tbm (wl_in11 _ (List.mem_of_getElem? (i := 48) rfl)) rfl
theorem w_J0_length_8abf5 : Cond.code yJ0_length_8abf5 cJ0_length_8abf5 1 (some .int) ∈ tb := tbm (wl_in11 _ (List.mem_of_getElem? (i := 44) rfl)) rfl
theorem w_J0_isLatin1_aae02 : Cond.code yJ0_isLatin1_aae02 cJ0_isLatin1_aae02 1 (some .boolean) ∈ tb := tbm (wl_in12 _ (List.mem_of_getElem? (i := 8) rfl)) rfl
theorem w_J0_checkIndex_df160 : Cond.code yJ0_checkIndex_df160 cJ0_checkIndex_df160 2 none ∈ tb := tbm (wl_in12 _ (List.mem_of_getElem? (i := 14) rfl)) rfl
theorem w_J0_charAt_5068e : Cond.code yJ0_charAt_5068e cJ0_charAt_5068e 2 (some .char) ∈ tb := tbm (wl_in12 _ (List.mem_of_getElem? (i := 4) rfl)) rfl
theorem w_J1_charAt_3b067 : Cond.code yJ1_charAt_3b067 cJ1_charAt_3b067 2 (some .char) ∈ tb := tbm (wl_in12 _ (List.mem_of_getElem? (i := 11) rfl)) rfl
theorem w_J3_checkIndex_8e157 : Cond.code yJ3_checkIndex_8e157 cJ3_checkIndex_8e157 3 (some .int) ∈ tb := tbm (wl_in12 _ (List.mem_of_getElem? (i := 19) rfl)) rfl
set_option maxRecDepth 100000 in
theorem c_J0_coder_7d493 (X : Cx) (M : Mm) (j : Nat) (hj : j < 14) : Con X 0 yJ0_coder_7d493 cJ0_coder_7d493 1 (some .byte) [vs X j] M (Qi (fun r M1 => M1 = M ∧ r = 0)) := by
  refine Con.ofG rfl (Nat.le_of_ble_eq_true rfl) ?_
  show G X 0 RJ0 cJ0_coder_7d493 1 (some .byte) (Qi (fun r M1 => M1 = M ∧ r = 0)) 0 [(0, vs X j)] [] M
  refine s_cmp (pc' := 3) dJ0_coder_7d493_0 rfl fs_38 ?_
  refine g_if_eq (pc' := 6) (tgt := 13) (by decide) dJ0_coder_7d493_3 rfl rfl (fun c => absurd c (by decide)) (fun c => ?_)
  refine g_sload_n (pc' := 7) 0 dJ0_coder_7d493_6 rfl rfl ?_
  refine s_cod (pc' := 10) hj dJ0_coder_7d493_7 rfl fs_15 ?_
  refine g_goto (tgt := 14) dJ0_coder_7d493_10 rfl ?_
  exact s_nret dJ0_coder_7d493_14 rfl ⟨rfl, rfl⟩
set_option maxRecDepth 100000 in
theorem c_J0_isLatin1_aae02 (X : Cx) (M : Mm) (j : Nat) (hj : j < 14) : Con X 0 yJ0_isLatin1_aae02 cJ0_isLatin1_aae02 1 (some .boolean) [vs X j] M (Qi (fun r M1 => M1 = M ∧ r = 1)) := by
  refine Con.ofG rfl (Nat.le_of_ble_eq_true rfl) ?_
  show G X 0 RJ0 cJ0_isLatin1_aae02 1 (some .boolean) (Qi (fun r M1 => M1 = M ∧ r = 1)) 0 [(0, vs X j)] [] M
  refine s_cmp (pc' := 3) dJ0_isLatin1_aae02_0 rfl fs_38 ?_
  refine g_if_eq (pc' := 6) (tgt := 17) (by decide) dJ0_isLatin1_aae02_3 rfl rfl (fun c => absurd c (by decide)) (fun c => ?_)
  refine g_sload_n (pc' := 7) 0 dJ0_isLatin1_aae02_6 rfl rfl ?_
  refine s_cod (pc' := 10) hj dJ0_isLatin1_aae02_7 rfl fs_15 ?_
  refine g_if_ne (pc' := 13) (tgt := 17) (by decide) dJ0_isLatin1_aae02_10 rfl rfl (fun c => absurd rfl c) (fun c => ?_)
  refine g_iconst (pc' := 14) dJ0_isLatin1_aae02_13 rfl ?_
  refine g_goto (tgt := 18) dJ0_isLatin1_aae02_14 rfl ?_
  exact g_zreturn dJ0_isLatin1_aae02_18 (by decide) ⟨rfl, rfl⟩
set_option maxRecDepth 100000 in
theorem c_J0_length_8abf5 (X : Cx) (M : Mm) (j : Nat) (hj : j < 14) : Con X 1 yJ0_length_8abf5 cJ0_length_8abf5 1 (some .int) [vs X j] M (Qi (fun r M1 => M1 = M ∧ r = ((sLen.getD j 0 : Nat) : Int))) := by
  refine Con.ofG rfl (Nat.le_of_ble_eq_true rfl) ?_
  show G X 1 RJ0 cJ0_length_8abf5 1 (some .int) (Qi (fun r M1 => M1 = M ∧ r = ((sLen.getD j 0 : Nat) : Int))) 0 [(0, vs X j)] [] M
  refine g_sload_n (pc' := 1) 0 dJ0_length_8abf5_0 rfl rfl ?_
  refine s_val (pc' := 4) hj dJ0_length_8abf5_1 rfl fs_9 ?_
  refine s_alen (pc' := 5) hj dJ0_length_8abf5_4 rfl ?_
  refine g_sload_n (pc' := 6) 0 dJ0_length_8abf5_5 rfl rfl ?_
  refine g_callW (pc' := 9) (As := []) (S := [vi ((sLen.getD j 0 : Nat) : Int)]) hj rfl dJ0_length_8abf5_6 rfl m_J0_335 w_J0_coder_7d493 (c_J0_coder_7d493 X M j hj) rfl (by decide) (by decide) rfl (Nat.le_of_ble_eq_true rfl) (fun x hx => ?_)
  subst hx
  refine g_ishr (pc' := 10) dJ0_length_8abf5_9 rfl (fun ho => ?_)
  rw [sl_shr j hj]
  exact g_ireturn dJ0_length_8abf5_10 ⟨rfl, rfl⟩
set_option maxRecDepth 100000 in
theorem c_J3_checkIndex_8e157 (X : Cx) (M : Mm) (a b : Int) (ha : inI a) (hb : inI b) (h0 : 0 ≤ a) (h1 : a < b) (v : Value) (hv : v = .null ∨ ∃ t : Nat, v = .ref t) : Con X 0 yJ3_checkIndex_8e157 cJ3_checkIndex_8e157 3 (some .int) [vi a, vi b, v] M (Qi (fun r M1 => M1 = M ∧ r = a)) := by
  rcases hv with rfl | ⟨t, rfl⟩
  · refine Con.ofG rfl (Nat.le_of_ble_eq_true rfl) ?_
    show G X 0 RJ3 cJ3_checkIndex_8e157 3 (some .int) (Qi (fun r M1 => M1 = M ∧ r = a)) 0 [(0, vi a), (1, vi b), (2, .null)] [] M
    refine g_iload_n (pc' := 1) 0 dJ3_checkIndex_8e157_0 rfl rfl ?_
    refine g_if_lt (pc' := 4) (tgt := 9) ha dJ3_checkIndex_8e157_1 rfl rfl (fun c => absurd h0 (by omega)) (fun c => ?_)
    refine g_iload_n (pc' := 5) 0 dJ3_checkIndex_8e157_4 rfl rfl ?_
    refine g_iload_n (pc' := 6) 1 dJ3_checkIndex_8e157_5 rfl rfl ?_
    refine g_ic_lt (pc' := 9) (tgt := 16) ha hb dJ3_checkIndex_8e157_6 rfl rfl (fun c => ?_) (fun c => absurd h1 (by omega))
    refine g_iload_n (pc' := 17) 0 dJ3_checkIndex_8e157_16 rfl rfl ?_
    exact g_ireturn dJ3_checkIndex_8e157_17 ⟨rfl, rfl⟩
  · refine Con.ofG rfl (Nat.le_of_ble_eq_true rfl) ?_
    show G X 0 RJ3 cJ3_checkIndex_8e157 3 (some .int) (Qi (fun r M1 => M1 = M ∧ r = a)) 0 [(0, vi a), (1, vi b), (2, .ref t)] [] M
    refine g_iload_n (pc' := 1) 0 dJ3_checkIndex_8e157_0 rfl rfl ?_
    refine g_if_lt (pc' := 4) (tgt := 9) ha dJ3_checkIndex_8e157_1 rfl rfl (fun c => absurd h0 (by omega)) (fun c => ?_)
    refine g_iload_n (pc' := 5) 0 dJ3_checkIndex_8e157_4 rfl rfl ?_
    refine g_iload_n (pc' := 6) 1 dJ3_checkIndex_8e157_5 rfl rfl ?_
    refine g_ic_lt (pc' := 9) (tgt := 16) ha hb dJ3_checkIndex_8e157_6 rfl rfl (fun c => ?_) (fun c => absurd h1 (by omega))
    refine g_iload_n (pc' := 17) 0 dJ3_checkIndex_8e157_16 rfl rfl ?_
    exact g_ireturn dJ3_checkIndex_8e157_17 ⟨rfl, rfl⟩
set_option maxRecDepth 100000 in
theorem c_J0_checkIndex_df160 (X : Cx) (M : Mm) (a b : Int) (ha : inI a) (hb : inI b) (h0 : 0 ≤ a) (h1 : a < b) : Con X 1 yJ0_checkIndex_df160 cJ0_checkIndex_df160 2 none [vi a, vi b] M (Qv (fun M1 => M1 = M)) := by
  refine Con.ofG rfl (Nat.le_of_ble_eq_true rfl) ?_
  show G X 1 RJ0 cJ0_checkIndex_df160 2 none (Qv (fun M1 => M1 = M)) 0 [(0, vi a), (1, vi b)] [] M
  refine g_iload_n (pc' := 1) 0 dJ0_checkIndex_df160_0 rfl rfl ?_
  refine g_iload_n (pc' := 2) 1 dJ0_checkIndex_df160_1 rfl rfl ?_
  refine s_fmt (pc' := 5) dJ0_checkIndex_df160_2 rfl fs_1053 (fun v hv => ?_)
  refine g_callSip (pc' := 8) (As := [vi a, vi b, v]) (S := []) dJ0_checkIndex_df160_5 rfl m_J0_1059 w_J3_checkIndex_8e157 (c_J3_checkIndex_8e157 X M a b ha hb h0 h1 v hv) rfl (by decide) (by decide) rfl (Nat.le_of_ble_eq_true rfl) (fun x hx => ?_)
  refine g_pop (pc' := 9) dJ0_checkIndex_df160_8 rfl rfl ?_
  exact g_vreturn dJ0_checkIndex_df160_9 rfl
set_option maxRecDepth 100000 in
theorem c_J1_charAt_3b067 (X : Cx) (M : Mm) (j : Nat) (hj : j < 14) (k : Int) (hk : inI k) (h0 : 0 ≤ k) (h1 : k < ((sLen.getD j 0 : Nat) : Int)) : Con X 2 yJ1_charAt_3b067 cJ1_charAt_3b067 2 (some .char) [vb X j, vi k] M (Qi (fun r M1 => M1 = M ∧ r = sch j k)) := by
  have hb := sl_b j hj
  refine Con.ofG rfl (Nat.le_of_ble_eq_true rfl) ?_
  show G X 2 RJ1 cJ1_charAt_3b067 2 (some .char) (Qi (fun r M1 => M1 = M ∧ r = sch j k)) 0 [(0, vb X j), (1, vi k)] [] M
  refine g_iload_n (pc' := 1) 1 dJ1_charAt_3b067_0 rfl rfl ?_
  refine s_bload_n (pc' := 2) 0 dJ1_charAt_3b067_1 rfl rfl ?_
  refine s_alen (pc' := 3) hj dJ1_charAt_3b067_2 rfl ?_
  refine g_callSv (pc' := 6) (As := [vi k, vi ((sLen.getD j 0 : Nat) : Int)]) (S := []) dJ1_charAt_3b067_3 rfl m_J1_9 w_J0_checkIndex_df160 (c_J0_checkIndex_df160 X M k _ hk ⟨by omega, by omega⟩ h0 h1) rfl (by decide) (by decide) rfl (Nat.le_of_ble_eq_true rfl) (fun M1 hM => ?_)
  subst hM
  refine s_bload_n (pc' := 7) 0 dJ1_charAt_3b067_6 rfl rfl ?_
  refine g_iload_n (pc' := 8) 1 dJ1_charAt_3b067_7 rfl rfl ?_
  refine s_bald (pc' := 9) hj dJ1_charAt_3b067_8 rfl h0 h1 ?_
  refine g_sipush (pc' := 12) (v := 255) dJ1_charAt_3b067_9 rfl (by decide) ?_
  refine g_iand (pc' := 13) dJ1_charAt_3b067_12 rfl (fun ho => ?_)
  have hx := (sch_b hj h0 h1).1
  rw [hx]
  refine s_i2c (pc' := 14) dJ1_charAt_3b067_13 rfl hx ?_
  exact s_cret dJ1_charAt_3b067_14 hx ⟨rfl, rfl⟩
set_option maxRecDepth 100000 in
theorem c_J0_charAt_5068e (X : Cx) (M : Mm) (j : Nat) (hj : j < 14) (k : Int) (hk : inI k) (h0 : 0 ≤ k) (h1 : k < ((sLen.getD j 0 : Nat) : Int)) : Con X 3 yJ0_charAt_5068e cJ0_charAt_5068e 2 (some .char) [vs X j, vi k] M (Qi (fun r M1 => M1 = M ∧ r = sch j k)) := by
  refine Con.ofG rfl (Nat.le_of_ble_eq_true rfl) ?_
  show G X 3 RJ0 cJ0_charAt_5068e 2 (some .char) (Qi (fun r M1 => M1 = M ∧ r = sch j k)) 0 [(0, vs X j), (1, vi k)] [] M
  refine g_sload_n (pc' := 1) 0 dJ0_charAt_5068e_0 rfl rfl ?_
  refine g_callW (pc' := 4) (As := []) (S := []) hj rfl dJ0_charAt_5068e_1 rfl m_J0_492 w_J0_isLatin1_aae02 (c_J0_isLatin1_aae02 X M j hj) rfl (by decide) (by decide) rfl (Nat.le_of_ble_eq_true rfl) (fun x hx => ?_)
  subst hx
  refine g_if_eq (pc' := 7) (tgt := 16) (by decide) dJ0_charAt_5068e_4 rfl rfl (fun c => absurd c (by decide)) (fun c => ?_)
  refine g_sload_n (pc' := 8) 0 dJ0_charAt_5068e_7 rfl rfl ?_
  refine s_val (pc' := 11) hj dJ0_charAt_5068e_8 rfl fs_9 ?_
  refine g_iload_n (pc' := 12) 1 dJ0_charAt_5068e_11 rfl rfl ?_
  refine g_callSip (pc' := 15) (As := [vb X j, vi k]) (S := []) dJ0_charAt_5068e_12 rfl m_J0_495 w_J1_charAt_3b067 (c_J1_charAt_3b067 X M j hj k hk h0 h1) rfl (by decide) (by decide) rfl (Nat.le_of_ble_eq_true rfl) (fun x hx => ?_)
  subst hx
  exact s_cret dJ0_charAt_5068e_15 (sch_b hj h0 h1).1 ⟨rfl, rfl⟩
