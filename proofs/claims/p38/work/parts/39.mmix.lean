set_option maxHeartbeats 4000000 in
set_option maxRecDepth 100000 in
theorem c_X10_at (X : Cx) (M : Mm) (w : Int) (hw : inI w) (a : Int) (ha : inI a) (s : Int) (hs : inI s) (hw6 : 0 ≤ w ∧ w ≤ 6) (ha20 : 0 ≤ a ∧ a ≤ 20) (hs20 : 0 ≤ s ∧ s ≤ 2000) : Con X 0 yX10_at cX10_at 3 (some .int) [vi w, vi a, vi s] M (Qi (fun r M1 => M1 = M ∧ (r = 42021 * w + 2001 * a + s))) := by
  refine Con.ofG rfl (Nat.le_of_ble_eq_true rfl) ?_
  show G X 0 RX10 cX10_at 3 (some .int) (Qi (fun r M1 => M1 = M ∧ (r = 42021 * w + 2001 * a + s))) 0 [(0, vi w), (1, vi a), (2, vi s)] [] M
  refine g_ldcw (pc' := 3) (v := 42021) dX10_at_0 rfl k_X10_384 ?_
  refine g_iload_n (pc' := 4) 0 dX10_at_3 rfl rfl ?_
  refine g_imul (pc' := 5) dX10_at_4 rfl ?_
  refine g_sipush (pc' := 8) (v := 2001) dX10_at_5 rfl (by decide) ?_
  refine g_iload_n (pc' := 9) 1 dX10_at_8 rfl rfl ?_
  refine g_imul (pc' := 10) dX10_at_9 rfl ?_
  refine g_iadd (pc' := 11) dX10_at_10 rfl ?_
  refine g_iload_n (pc' := 12) 2 dX10_at_11 rfl rfl ?_
  refine g_iadd (pc' := 13) dX10_at_12 rfl ?_
  refine g_ireturn dX10_at_13 ?_
  exact ⟨rfl, by omega⟩
set_option maxHeartbeats 4000000 in
set_option maxRecDepth 100000 in
theorem l_X10_findMixes_104 (X : Cx) (M : Mm) (hi : IM M) (am : Int) (ham : inI am) (ham2 : 1 ≤ am ∧ am ≤ 20) (n70 : Nat) (n77 : Nat) (n86 : Nat) (ihO : ∀ mO : Nat, mO < n86 → ∀ (n : Int) (w : Int) (a : Int) (s : Int) (M1 : Mm) (ic1 : IM M1) (fr1 : Fr (fun c => c = 115) M M1) (hnn : n = M 99 3) (h0 : 0 ≤ w) (h1 : w < n) (aO : n70 = (w + 1).toNat) (a0 : 0 ≤ a) (a1 : a ≤ am) (bO : n77 = (am + 1 - a).toNat) (lp : LPt (M1 115) (M 99) am n w a s) (k0 : 0 ≤ s) (k1 : s ≤ 100 * a + 1), (100 * a + 1 - s).toNat = mO → G X 1 RX10 cX10_findMixes 10 none (Qv (fun M1 => IM M1 ∧ Fr (fun c => c = 115) M M1 ∧ (LV (M1 115) (M 99) am (M 99 3) 0))) 86 [(2, vi n), (3, vi w), (4, vi a), (5, vi s), (0, vr X 97), (1, vi am)] [] M1) : ∀ (kk : Nat) (n : Int) (w : Int) (a : Int) (s : Int) (b : Int) (x : Int) (M1 : Mm) (ic1 : IM M1) (fr1 : Fr (fun c => c = 115) M M1) (hnn : n = M 99 3) (h0 : 0 ≤ w) (h1 : w < n) (aO : n70 = (w + 1).toNat) (a0 : 0 ≤ a) (a1 : a ≤ am) (bO : n77 = (am + 1 - a).toNat) (lp : LPt (M1 115) (M 99) am n w a s) (k0 : 0 ≤ s) (k1 : s ≤ 100 * a) (cO : n86 = (100 * a + 1 - s).toNat) (hb : BX (M1 115) (M 99) w a s b) (x0 : 0 ≤ x) (x1 : x ≤ 21), (21 - x).toNat = kk → G X 1 RX10 cX10_findMixes 10 none (Qv (fun M1 => IM M1 ∧ Fr (fun c => c = 115) M M1 ∧ (LV (M1 115) (M 99) am (M 99 3) 0))) 104 [(2, vi n), (3, vi w), (4, vi a), (5, vi s), (6, vi b), (7, vi x), (0, vr X 97), (1, vi am)] [] M1 := by
  intro kk
  induction kk using Nat.strongRecOn with
  | ind kk ih =>
    intro n w a s b x M1 ic1 fr1 hnn h0 h1 aO a0 a1 bO lp k0 k1 cO hb x0 x1 hmes
    have p3 := hi.1.2.2.2.1
    have hb1 := hb.1
    refine g_iload (pc' := 106) 5 dX10_findMixes_104 rfl rfl ?_
    refine g_aload_n (pc' := 107) 6 dX10_findMixes_106 rfl rfl ?_
    refine g_getR (pc' := 110) dX10_findMixes_107 rfl f_X10_13 rfl rfl ?_
    refine g_bipush (pc' := 112) (v := 31) dX10_findMixes_110 rfl (by decide) ?_
    refine g_iconst (pc' := 113) dX10_findMixes_112 rfl ?_
    refine g_iload_n (pc' := 114) 1 dX10_findMixes_113 rfl rfl ?_
    refine g_imul (pc' := 115) dX10_findMixes_114 rfl ?_
    refine g_iadd (pc' := 116) dX10_findMixes_115 rfl ?_
    refine g_iconst (pc' := 117) dX10_findMixes_116 rfl ?_
    refine g_iadd (pc' := 118) dX10_findMixes_117 rfl ?_
    refine g_iald (pc' := 119) dX10_findMixes_118 rfl rfl (by omega) (by omega) (fun v1 ev1 rv1 => ?_)
    have gv1 : v1 = M 99 ((31 + (3 * w)) + 2).toNat := by rw [ev1, fr1 99 (by decide)]
    have dv1 := hi.1.wi (i := ((31 + (3 * w)) + 2)) (by omega) (by omega)
    rw [← gv1] at dv1
    refine g_ic_gt (pc' := 122) (tgt := 231) ⟨by omega, by omega⟩ rv1 dX10_findMixes_119 rfl rfl (fun c2 => ?_) (fun c2 => ?_)
    · refine g_aload_n (pc' := 232) 6 dX10_findMixes_231 rfl rfl ?_
      refine g_getR (pc' := 235) dX10_findMixes_232 rfl f_X10_71 rfl rfl ?_
      refine g_iload_n (pc' := 236) 1 dX10_findMixes_235 rfl rfl ?_
      refine g_iload (pc' := 238) 2 dX10_findMixes_236 rfl rfl ?_
      refine g_iload (pc' := 240) 3 dX10_findMixes_238 rfl rfl ?_
      refine g_callSip (pc' := 243) (As := [vi w, vi a, vi s]) (S := [vr X 115]) dX10_findMixes_240 rfl m_X10_385 w_X10_at (c_X10_at X M1 w ⟨by omega, by omega⟩ a ⟨by omega, by omega⟩ s ⟨by omega, by omega⟩ (by omega) (by omega) (by omega)) rfl (by decide) (by decide) rfl (Nat.le_of_ble_eq_true rfl) (fun z4 q3 => ?_)
      refine g_iload (pc' := 245) 4 dX10_findMixes_243 rfl rfl ?_
      refine g_iast (pc' := 246) dX10_findMixes_245 rfl rfl (by omega) (by omega) ⟨by omega, by omega⟩ (fun M5 hM5 => ?_)
      have iM5 : IM M5 := IM.wr ic1 hM5 (by unfold okv; first | decide | omega)
      have fM5 : Fr (fun c => c = 115) M M5 := Fr.wr fr1 hM5 (by first | decide | omega | (dsimp only; omega))
      have lpM5 : LPt (M5 115) (M 99) am n w a (s + 1) := LPt.step lp hb (by rw [hM5, mu_is]) (by rw [q3]; rfl) (by omega) (by omega) (by omega) (by omega)
      refine g_iinc (pc' := 249) (L' := [(5, vi (s + 1)), (2, vi n), (3, vi w), (4, vi a), (6, vi b), (7, vi x), (0, vr X 97), (1, vi am)]) 3 dX10_findMixes_246 rfl rfl (by decide) rfl ?_
      refine g_goto (tgt := 86) dX10_findMixes_249 rfl ?_
      refine g_sub [1, 2, 3, 0, 6, 7] rfl ?_
      exact ihO _ (by omega) n w a (s + 1) M5 iM5 fM5 (by omega) (by omega) (by omega) (by omega) (by omega) (by omega) (by omega) lpM5 (by omega) (by omega) rfl
    · refine g_iload (pc' := 124) 5 dX10_findMixes_122 rfl rfl ?_
      refine g_iload (pc' := 126) 2 dX10_findMixes_124 rfl rfl ?_
      refine g_ic_gt (pc' := 129) (tgt := 231) ⟨by omega, by omega⟩ ⟨by omega, by omega⟩ dX10_findMixes_126 rfl rfl (fun c6 => ?_) (fun c6 => ?_)
      · refine g_aload_n (pc' := 232) 6 dX10_findMixes_231 rfl rfl ?_
        refine g_getR (pc' := 235) dX10_findMixes_232 rfl f_X10_71 rfl rfl ?_
        refine g_iload_n (pc' := 236) 1 dX10_findMixes_235 rfl rfl ?_
        refine g_iload (pc' := 238) 2 dX10_findMixes_236 rfl rfl ?_
        refine g_iload (pc' := 240) 3 dX10_findMixes_238 rfl rfl ?_
        refine g_callSip (pc' := 243) (As := [vi w, vi a, vi s]) (S := [vr X 115]) dX10_findMixes_240 rfl m_X10_385 w_X10_at (c_X10_at X M1 w ⟨by omega, by omega⟩ a ⟨by omega, by omega⟩ s ⟨by omega, by omega⟩ (by omega) (by omega) (by omega)) rfl (by decide) (by decide) rfl (Nat.le_of_ble_eq_true rfl) (fun z8 q7 => ?_)
        refine g_iload (pc' := 245) 4 dX10_findMixes_243 rfl rfl ?_
        refine g_iast (pc' := 246) dX10_findMixes_245 rfl rfl (by omega) (by omega) ⟨by omega, by omega⟩ (fun M9 hM9 => ?_)
        have iM9 : IM M9 := IM.wr ic1 hM9 (by unfold okv; first | decide | omega)
        have fM9 : Fr (fun c => c = 115) M M9 := Fr.wr fr1 hM9 (by first | decide | omega | (dsimp only; omega))
        have lpM9 : LPt (M9 115) (M 99) am n w a (s + 1) := LPt.step lp hb (by rw [hM9, mu_is]) (by rw [q7]; rfl) (by omega) (by omega) (by omega) (by omega)
        refine g_iinc (pc' := 249) (L' := [(5, vi (s + 1)), (2, vi n), (3, vi w), (4, vi a), (6, vi b), (7, vi x), (0, vr X 97), (1, vi am)]) 3 dX10_findMixes_246 rfl rfl (by decide) rfl ?_
        refine g_goto (tgt := 86) dX10_findMixes_249 rfl ?_
        refine g_sub [1, 2, 3, 0, 6, 7] rfl ?_
        exact ihO _ (by omega) n w a (s + 1) M9 iM9 fM9 (by omega) (by omega) (by omega) (by omega) (by omega) (by omega) (by omega) lpM9 (by omega) (by omega) rfl
      · refine g_iload (pc' := 131) 3 dX10_findMixes_129 rfl rfl ?_
        refine g_iload (pc' := 133) 5 dX10_findMixes_131 rfl rfl ?_
        refine g_aload_n (pc' := 134) 6 dX10_findMixes_133 rfl rfl ?_
        refine g_getR (pc' := 137) dX10_findMixes_134 rfl f_X10_13 rfl rfl ?_
        refine g_bipush (pc' := 139) (v := 31) dX10_findMixes_137 rfl (by decide) ?_
        refine g_iconst (pc' := 140) dX10_findMixes_139 rfl ?_
        refine g_iload_n (pc' := 141) 1 dX10_findMixes_140 rfl rfl ?_
        refine g_imul (pc' := 142) dX10_findMixes_141 rfl ?_
        refine g_iadd (pc' := 143) dX10_findMixes_142 rfl ?_
        refine g_iald (pc' := 144) dX10_findMixes_143 rfl rfl (by omega) (by omega) (fun v10 ev10 rv10 => ?_)
        have gv10 : v10 = M 99 (31 + (3 * w)).toNat := by rw [ev10, fr1 99 (by decide)]
        have dv10 := hi.1.wi (i := (31 + (3 * w))) (by omega) (by omega)
        rw [← gv10] at dv10
        refine g_imul (pc' := 145) dX10_findMixes_144 rfl ?_
        have mpp := mulC (x := x) (v := v10) (B := 20) (C := 100) (by omega) (by omega) (by omega) (by omega)
        obtain ⟨pp, hpp⟩ : ∃ z : Int, z = x * v10 := ⟨_, rfl⟩
        rw [← hpp] at mpp ⊢
        have gpp : pp = x * M 99 (31 + 3 * w).toNat := by rw [hpp, gv10]
        refine g_isub (pc' := 146) dX10_findMixes_145 rfl ?_
        obtain ⟨x11, ex11⟩ : ∃ z : Int, z = s - pp := ⟨_, rfl⟩
        rw [← ex11]
        refine g_istore (pc' := 148) (L' := [(8, vi x11), (2, vi n), (3, vi w), (4, vi a), (5, vi s), (6, vi b), (7, vi x), (0, vr X 97), (1, vi am)]) dX10_findMixes_146 rfl (by decide) rfl ?_
        refine g_iload (pc' := 150) 0 dX10_findMixes_148 rfl rfl ?_
        refine g_if_lt (pc' := 153) (tgt := 166) ⟨by omega, by omega⟩ dX10_findMixes_150 rfl rfl (fun c12 => ?_) (fun c12 => ?_)
        · refine g_ldcw (pc' := 169) (v := 1000000) dX10_findMixes_166 rfl k_X10_388 ?_
          refine g_goto (tgt := 207) dX10_findMixes_169 rfl ?_
          refine g_istore (pc' := 209) (L' := [(9, vi 1000000), (8, vi x11), (2, vi n), (3, vi w), (4, vi a), (5, vi s), (6, vi b), (7, vi x), (0, vr X 97), (1, vi am)]) dX10_findMixes_207 rfl (by decide) rfl ?_
          refine g_iload (pc' := 211) 0 dX10_findMixes_209 rfl rfl ?_
          refine g_iload (pc' := 213) 6 dX10_findMixes_211 rfl rfl ?_
          refine g_ic_ge (pc' := 216) (tgt := 221) (by decide) ⟨by omega, by omega⟩ dX10_findMixes_213 rfl rfl (fun c13 => ?_) (fun c13 => ?_)
          · refine g_iload (pc' := 223) 6 dX10_findMixes_221 rfl rfl ?_
            refine g_istore (pc' := 225) (L' := [(6, vi b), (9, vi 1000000), (8, vi x11), (2, vi n), (3, vi w), (4, vi a), (5, vi s), (7, vi x), (0, vr X 97), (1, vi am)]) dX10_findMixes_223 rfl (by decide) rfl ?_
            refine g_iinc (pc' := 228) (L' := [(7, vi (x + 1)), (6, vi b), (9, vi 1000000), (8, vi x11), (2, vi n), (3, vi w), (4, vi a), (5, vi s), (0, vr X 97), (1, vi am)]) 7 dX10_findMixes_225 rfl rfl (by decide) rfl ?_
            refine g_goto (tgt := 104) dX10_findMixes_228 rfl ?_
            refine g_sub [4, 5, 6, 7, 1, 0, 8, 9] rfl ?_
            exact ih _ (by omega) n w a s b (x + 1) M1 ic1 fr1 (by omega) (by omega) (by omega) (by omega) (by omega) (by omega) (by omega) lp (by omega) (by omega) (by omega) hb (by omega) (by omega) rfl
          · refine g_iload (pc' := 218) 0 dX10_findMixes_216 rfl rfl ?_
            refine g_goto (tgt := 223) dX10_findMixes_218 rfl ?_
            refine g_istore (pc' := 225) (L' := [(6, vi 1000000), (9, vi 1000000), (8, vi x11), (2, vi n), (3, vi w), (4, vi a), (5, vi s), (7, vi x), (0, vr X 97), (1, vi am)]) dX10_findMixes_223 rfl (by decide) rfl ?_
            refine g_iinc (pc' := 228) (L' := [(7, vi (x + 1)), (6, vi 1000000), (9, vi 1000000), (8, vi x11), (2, vi n), (3, vi w), (4, vi a), (5, vi s), (0, vr X 97), (1, vi am)]) 7 dX10_findMixes_225 rfl rfl (by decide) rfl ?_
            refine g_goto (tgt := 104) dX10_findMixes_228 rfl ?_
            refine g_sub [4, 5, 6, 7, 1, 0, 8, 9] rfl ?_
            exact ih _ (by omega) n w a s 1000000 (x + 1) M1 ic1 fr1 (by omega) (by omega) (by omega) (by omega) (by omega) (by omega) (by omega) lp (by omega) (by omega) (by omega) (BX.far _ _ _ _ _) (by omega) (by omega) rfl
        · refine g_iload (pc' := 155) 0 dX10_findMixes_153 rfl rfl ?_
          refine g_bipush (pc' := 157) (v := 100) dX10_findMixes_155 rfl (by decide) ?_
          refine g_iload (pc' := 159) 3 dX10_findMixes_157 rfl rfl ?_
          refine g_iload (pc' := 161) 6 dX10_findMixes_159 rfl rfl ?_
          refine g_isub (pc' := 162) dX10_findMixes_161 rfl ?_
          refine g_imul (pc' := 163) dX10_findMixes_162 rfl ?_
          refine g_ic_le (pc' := 166) (tgt := 172) ⟨by omega, by omega⟩ ⟨by omega, by omega⟩ dX10_findMixes_163 rfl rfl (fun c14 => ?_) (fun c14 => ?_)
          · refine g_aload_n (pc' := 173) 7 dX10_findMixes_172 rfl rfl ?_
            refine g_getR (pc' := 176) dX10_findMixes_173 rfl f_X10_71 rfl rfl ?_
            refine g_iload_n (pc' := 177) 2 dX10_findMixes_176 rfl rfl ?_
            refine g_iconst (pc' := 178) dX10_findMixes_177 rfl ?_
            refine g_iadd (pc' := 179) dX10_findMixes_178 rfl ?_
            refine g_iload (pc' := 181) 3 dX10_findMixes_179 rfl rfl ?_
            refine g_iload (pc' := 183) 6 dX10_findMixes_181 rfl rfl ?_
            refine g_isub (pc' := 184) dX10_findMixes_183 rfl ?_
            refine g_iload (pc' := 186) 0 dX10_findMixes_184 rfl rfl ?_
            refine g_callSip (pc' := 189) (As := [vi (w + 1), vi (a - x), vi x11]) (S := [vr X 115]) dX10_findMixes_186 rfl m_X10_385 w_X10_at (c_X10_at X M1 (w + 1) ⟨by omega, by omega⟩ (a - x) ⟨by omega, by omega⟩ x11 ⟨by omega, by omega⟩ (by omega) (by omega) (by omega)) rfl (by decide) (by decide) rfl (Nat.le_of_ble_eq_true rfl) (fun z16 q15 => ?_)
            refine g_iald (pc' := 190) dX10_findMixes_189 rfl rfl (by omega) (by omega) (fun v17 ev17 rv17 => ?_)
            have gv17 : v17 = M1 115 (ix (w + 1) (a - x) x11) := by rw [ev17, q15]; rfl
            have bv17 := lp.1.b gv17 (by omega) (by omega) (by omega) (by omega) (by omega) (by omega)
            refine g_iload (pc' := 192) 6 dX10_findMixes_190 rfl rfl ?_
            refine g_aload_n (pc' := 193) 7 dX10_findMixes_192 rfl rfl ?_
            refine g_getR (pc' := 196) dX10_findMixes_193 rfl f_X10_13 rfl rfl ?_
            refine g_bipush (pc' := 198) (v := 31) dX10_findMixes_196 rfl (by decide) ?_
            refine g_iconst (pc' := 199) dX10_findMixes_198 rfl ?_
            refine g_iload_n (pc' := 200) 2 dX10_findMixes_199 rfl rfl ?_
            refine g_imul (pc' := 201) dX10_findMixes_200 rfl ?_
            refine g_iadd (pc' := 202) dX10_findMixes_201 rfl ?_
            refine g_iconst (pc' := 203) dX10_findMixes_202 rfl ?_
            refine g_iadd (pc' := 204) dX10_findMixes_203 rfl ?_
            refine g_iald (pc' := 205) dX10_findMixes_204 rfl rfl (by omega) (by omega) (fun v18 ev18 rv18 => ?_)
            have gv18 : v18 = M 99 ((31 + (3 * w)) + 1).toNat := by rw [ev18, fr1 99 (by decide)]
            have dv18 := hi.1.wi (i := ((31 + (3 * w)) + 1)) (by omega) (by omega)
            rw [← gv18] at dv18
            refine g_imul (pc' := 206) dX10_findMixes_205 rfl ?_
            have mpq := mulC (x := x) (v := v18) (B := 20) (C := 99) (by omega) (by omega) (by omega) (by omega)
            obtain ⟨pq, hpq⟩ : ∃ z : Int, z = x * v18 := ⟨_, rfl⟩
            rw [← hpq] at mpq ⊢
            have gpq : pq = x * M 99 (31 + 3 * w + 1).toNat := by rw [hpq, gv18]
            refine g_iadd (pc' := 207) dX10_findMixes_206 rfl ?_
            obtain ⟨x19, ex19⟩ : ∃ z : Int, z = v17 + pq := ⟨_, rfl⟩
            rw [← ex19]
            refine g_istore (pc' := 209) (L' := [(9, vi x19), (8, vi x11), (2, vi n), (3, vi w), (4, vi a), (5, vi s), (6, vi b), (7, vi x), (0, vr X 97), (1, vi am)]) dX10_findMixes_207 rfl (by decide) rfl ?_
            refine g_iload (pc' := 211) 0 dX10_findMixes_209 rfl rfl ?_
            refine g_iload (pc' := 213) 6 dX10_findMixes_211 rfl rfl ?_
            refine g_ic_ge (pc' := 216) (tgt := 221) ⟨by omega, by omega⟩ ⟨by omega, by omega⟩ dX10_findMixes_213 rfl rfl (fun c20 => ?_) (fun c20 => ?_)
            · refine g_iload (pc' := 223) 6 dX10_findMixes_221 rfl rfl ?_
              refine g_istore (pc' := 225) (L' := [(6, vi b), (9, vi x19), (8, vi x11), (2, vi n), (3, vi w), (4, vi a), (5, vi s), (7, vi x), (0, vr X 97), (1, vi am)]) dX10_findMixes_223 rfl (by decide) rfl ?_
              refine g_iinc (pc' := 228) (L' := [(7, vi (x + 1)), (6, vi b), (9, vi x19), (8, vi x11), (2, vi n), (3, vi w), (4, vi a), (5, vi s), (0, vr X 97), (1, vi am)]) 7 dX10_findMixes_225 rfl rfl (by decide) rfl ?_
              refine g_goto (tgt := 104) dX10_findMixes_228 rfl ?_
              refine g_sub [4, 5, 6, 7, 1, 0, 8, 9] rfl ?_
              exact ih _ (by omega) n w a s b (x + 1) M1 ic1 fr1 (by omega) (by omega) (by omega) (by omega) (by omega) (by omega) (by omega) lp (by omega) (by omega) (by omega) hb (by omega) (by omega) rfl
            · have hbn : BX (M1 115) (M 99) w a s x19 := BX.new (x := x) (p := pp) (q := pq) (L := x11) (l := v17) ⟨by omega, by omega⟩ gpp gpq (by omega) (by omega) (by omega) gv17 (by omega) ⟨by omega, by omega⟩
              refine g_iload (pc' := 218) 0 dX10_findMixes_216 rfl rfl ?_
              refine g_goto (tgt := 223) dX10_findMixes_218 rfl ?_
              refine g_istore (pc' := 225) (L' := [(6, vi x19), (9, vi x19), (8, vi x11), (2, vi n), (3, vi w), (4, vi a), (5, vi s), (7, vi x), (0, vr X 97), (1, vi am)]) dX10_findMixes_223 rfl (by decide) rfl ?_
              refine g_iinc (pc' := 228) (L' := [(7, vi (x + 1)), (6, vi x19), (9, vi x19), (8, vi x11), (2, vi n), (3, vi w), (4, vi a), (5, vi s), (0, vr X 97), (1, vi am)]) 7 dX10_findMixes_225 rfl rfl (by decide) rfl ?_
              refine g_goto (tgt := 104) dX10_findMixes_228 rfl ?_
              refine g_sub [4, 5, 6, 7, 1, 0, 8, 9] rfl ?_
              exact ih _ (by omega) n w a s x19 (x + 1) M1 ic1 fr1 (by omega) (by omega) (by omega) (by omega) (by omega) (by omega) (by omega) lp (by omega) (by omega) (by omega) hbn (by omega) (by omega) rfl
          · refine g_ldcw (pc' := 169) (v := 1000000) dX10_findMixes_166 rfl k_X10_388 ?_
            refine g_goto (tgt := 207) dX10_findMixes_169 rfl ?_
            refine g_istore (pc' := 209) (L' := [(9, vi 1000000), (8, vi x11), (2, vi n), (3, vi w), (4, vi a), (5, vi s), (6, vi b), (7, vi x), (0, vr X 97), (1, vi am)]) dX10_findMixes_207 rfl (by decide) rfl ?_
            refine g_iload (pc' := 211) 0 dX10_findMixes_209 rfl rfl ?_
            refine g_iload (pc' := 213) 6 dX10_findMixes_211 rfl rfl ?_
            refine g_ic_ge (pc' := 216) (tgt := 221) (by decide) ⟨by omega, by omega⟩ dX10_findMixes_213 rfl rfl (fun c21 => ?_) (fun c21 => ?_)
            · refine g_iload (pc' := 223) 6 dX10_findMixes_221 rfl rfl ?_
              refine g_istore (pc' := 225) (L' := [(6, vi b), (9, vi 1000000), (8, vi x11), (2, vi n), (3, vi w), (4, vi a), (5, vi s), (7, vi x), (0, vr X 97), (1, vi am)]) dX10_findMixes_223 rfl (by decide) rfl ?_
              refine g_iinc (pc' := 228) (L' := [(7, vi (x + 1)), (6, vi b), (9, vi 1000000), (8, vi x11), (2, vi n), (3, vi w), (4, vi a), (5, vi s), (0, vr X 97), (1, vi am)]) 7 dX10_findMixes_225 rfl rfl (by decide) rfl ?_
              refine g_goto (tgt := 104) dX10_findMixes_228 rfl ?_
              refine g_sub [4, 5, 6, 7, 1, 0, 8, 9] rfl ?_
              exact ih _ (by omega) n w a s b (x + 1) M1 ic1 fr1 (by omega) (by omega) (by omega) (by omega) (by omega) (by omega) (by omega) lp (by omega) (by omega) (by omega) hb (by omega) (by omega) rfl
            · refine g_iload (pc' := 218) 0 dX10_findMixes_216 rfl rfl ?_
              refine g_goto (tgt := 223) dX10_findMixes_218 rfl ?_
              refine g_istore (pc' := 225) (L' := [(6, vi 1000000), (9, vi 1000000), (8, vi x11), (2, vi n), (3, vi w), (4, vi a), (5, vi s), (7, vi x), (0, vr X 97), (1, vi am)]) dX10_findMixes_223 rfl (by decide) rfl ?_
              refine g_iinc (pc' := 228) (L' := [(7, vi (x + 1)), (6, vi 1000000), (9, vi 1000000), (8, vi x11), (2, vi n), (3, vi w), (4, vi a), (5, vi s), (0, vr X 97), (1, vi am)]) 7 dX10_findMixes_225 rfl rfl (by decide) rfl ?_
              refine g_goto (tgt := 104) dX10_findMixes_228 rfl ?_
              refine g_sub [4, 5, 6, 7, 1, 0, 8, 9] rfl ?_
              exact ih _ (by omega) n w a s 1000000 (x + 1) M1 ic1 fr1 (by omega) (by omega) (by omega) (by omega) (by omega) (by omega) (by omega) lp (by omega) (by omega) (by omega) (BX.far _ _ _ _ _) (by omega) (by omega) rfl
set_option maxHeartbeats 4000000 in
set_option maxRecDepth 100000 in
theorem l_X10_findMixes_86 (X : Cx) (M : Mm) (hi : IM M) (am : Int) (ham : inI am) (ham2 : 1 ≤ am ∧ am ≤ 20) (n70 : Nat) (n77 : Nat) (ihO : ∀ mO : Nat, mO < n77 → ∀ (n : Int) (w : Int) (a : Int) (M1 : Mm) (ic1 : IM M1) (fr1 : Fr (fun c => c = 115) M M1) (hnn : n = M 99 3) (h0 : 0 ≤ w) (h1 : w < n) (aO : n70 = (w + 1).toNat) (lp : LPt (M1 115) (M 99) am n w a 0) (a0 : 0 ≤ a) (a1 : a ≤ am + 1), (am + 1 - a).toNat = mO → G X 1 RX10 cX10_findMixes 10 none (Qv (fun M1 => IM M1 ∧ Fr (fun c => c = 115) M M1 ∧ (LV (M1 115) (M 99) am (M 99 3) 0))) 77 [(2, vi n), (3, vi w), (4, vi a), (0, vr X 97), (1, vi am)] [] M1) : ∀ (kk : Nat) (n : Int) (w : Int) (a : Int) (s : Int) (M1 : Mm) (ic1 : IM M1) (fr1 : Fr (fun c => c = 115) M M1) (hnn : n = M 99 3) (h0 : 0 ≤ w) (h1 : w < n) (aO : n70 = (w + 1).toNat) (a0 : 0 ≤ a) (a1 : a ≤ am) (bO : n77 = (am + 1 - a).toNat) (lp : LPt (M1 115) (M 99) am n w a s) (k0 : 0 ≤ s) (k1 : s ≤ 100 * a + 1), (100 * a + 1 - s).toNat = kk → G X 1 RX10 cX10_findMixes 10 none (Qv (fun M1 => IM M1 ∧ Fr (fun c => c = 115) M M1 ∧ (LV (M1 115) (M 99) am (M 99 3) 0))) 86 [(2, vi n), (3, vi w), (4, vi a), (5, vi s), (0, vr X 97), (1, vi am)] [] M1 := by
  intro kk
  induction kk using Nat.strongRecOn with
  | ind kk ih =>
    intro n w a s M1 ic1 fr1 hnn h0 h1 aO a0 a1 bO lp k0 k1 hmes
    have p3 := hi.1.2.2.2.1
    refine g_iload (pc' := 88) 3 dX10_findMixes_86 rfl rfl ?_
    refine g_bipush (pc' := 90) (v := 100) dX10_findMixes_88 rfl (by decide) ?_
    refine g_iload (pc' := 92) 2 dX10_findMixes_90 rfl rfl ?_
    refine g_imul (pc' := 93) dX10_findMixes_92 rfl ?_
    refine g_ic_gt (pc' := 96) (tgt := 252) ⟨by omega, by omega⟩ ⟨by omega, by omega⟩ dX10_findMixes_93 rfl rfl (fun c1 => ?_) (fun c1 => ?_)
    · refine g_iinc (pc' := 255) (L' := [(4, vi (a + 1)), (2, vi n), (3, vi w), (5, vi s), (0, vr X 97), (1, vi am)]) 2 dX10_findMixes_252 rfl rfl (by decide) rfl ?_
      refine g_goto (tgt := 77) dX10_findMixes_255 rfl ?_
      refine g_sub [1, 2, 0, 4, 5] rfl ?_
      exact ihO _ (by omega) n w (a + 1) M1 ic1 fr1 (by omega) (by omega) (by omega) (by omega) (LPt.row lp (by omega)) (by omega) (by omega) rfl
    · refine g_ldcw (pc' := 99) (v := 1000000) dX10_findMixes_96 rfl k_X10_388 ?_
      refine g_istore (pc' := 101) (L' := [(6, vi 1000000), (2, vi n), (3, vi w), (4, vi a), (5, vi s), (0, vr X 97), (1, vi am)]) dX10_findMixes_99 rfl (by decide) rfl ?_
      refine g_iconst (pc' := 102) dX10_findMixes_101 rfl ?_
      refine g_istore (pc' := 104) (L' := [(7, vi 0), (6, vi 1000000), (2, vi n), (3, vi w), (4, vi a), (5, vi s), (0, vr X 97), (1, vi am)]) dX10_findMixes_102 rfl (by decide) rfl ?_
      refine g_sub [2, 3, 4, 5, 1, 0, 6, 7] rfl ?_
      exact l_X10_findMixes_104 X M hi am ham ham2 n70 n77 kk ih _ n w a s 1000000 0 M1 ic1 fr1 (by omega) (by omega) (by omega) (by omega) (by omega) (by omega) (by omega) lp (by omega) (by omega) (by omega) (BX.far _ _ _ _ _) (by omega) (by omega) rfl
set_option maxHeartbeats 4000000 in
set_option maxRecDepth 100000 in
theorem l_X10_findMixes_77 (X : Cx) (M : Mm) (hi : IM M) (am : Int) (ham : inI am) (ham2 : 1 ≤ am ∧ am ≤ 20) (n70 : Nat) (ihO : ∀ mO : Nat, mO < n70 → ∀ (n : Int) (w : Int) (M1 : Mm) (ic1 : IM M1) (fr1 : Fr (fun c => c = 115) M M1) (hnn : n = M 99 3) (lv : LV (M1 115) (M 99) am n (w + 1)) (h0 : -1 ≤ w) (h1 : w < n), (w + 1).toNat = mO → G X 1 RX10 cX10_findMixes 10 none (Qv (fun M1 => IM M1 ∧ Fr (fun c => c = 115) M M1 ∧ (LV (M1 115) (M 99) am (M 99 3) 0))) 70 [(2, vi n), (3, vi w), (0, vr X 97), (1, vi am)] [] M1) : ∀ (kk : Nat) (n : Int) (w : Int) (a : Int) (M1 : Mm) (ic1 : IM M1) (fr1 : Fr (fun c => c = 115) M M1) (hnn : n = M 99 3) (h0 : 0 ≤ w) (h1 : w < n) (aO : n70 = (w + 1).toNat) (lp : LPt (M1 115) (M 99) am n w a 0) (a0 : 0 ≤ a) (a1 : a ≤ am + 1), (am + 1 - a).toNat = kk → G X 1 RX10 cX10_findMixes 10 none (Qv (fun M1 => IM M1 ∧ Fr (fun c => c = 115) M M1 ∧ (LV (M1 115) (M 99) am (M 99 3) 0))) 77 [(2, vi n), (3, vi w), (4, vi a), (0, vr X 97), (1, vi am)] [] M1 := by
  intro kk
  induction kk using Nat.strongRecOn with
  | ind kk ih =>
    intro n w a M1 ic1 fr1 hnn h0 h1 aO lp a0 a1 hmes
    have p3 := hi.1.2.2.2.1
    refine g_iload (pc' := 79) 2 dX10_findMixes_77 rfl rfl ?_
    refine g_iload_n (pc' := 80) 4 dX10_findMixes_79 rfl rfl ?_
    refine g_ic_gt (pc' := 83) (tgt := 258) ⟨by omega, by omega⟩ ham dX10_findMixes_80 rfl rfl (fun c1 => ?_) (fun c1 => ?_)
    · refine g_iinc (pc' := 261) (L' := [(3, vi (w + (-1))), (2, vi n), (4, vi a), (0, vr X 97), (1, vi am)]) 1 dX10_findMixes_258 rfl rfl (by decide) rfl ?_
      refine g_goto (tgt := 70) dX10_findMixes_261 rfl ?_
      refine g_sub [1, 0, 3, 4] rfl ?_
      exact ihO _ (by omega) n (w + (-1)) M1 ic1 fr1 (by omega) (LPt.done lp (by omega) (by omega)) (by omega) (by omega) rfl
    · refine g_iconst (pc' := 84) dX10_findMixes_83 rfl ?_
      refine g_istore (pc' := 86) (L' := [(5, vi 0), (2, vi n), (3, vi w), (4, vi a), (0, vr X 97), (1, vi am)]) dX10_findMixes_84 rfl (by decide) rfl ?_
      refine g_sub [1, 2, 3, 0, 4, 5] rfl ?_
      exact l_X10_findMixes_86 X M hi am ham ham2 n70 kk ih _ n w a 0 M1 ic1 fr1 (by omega) (by omega) (by omega) (by omega) (by omega) (by omega) (by omega) lp (by omega) (by omega) rfl
set_option maxHeartbeats 4000000 in
set_option maxRecDepth 100000 in
theorem l_X10_findMixes_70 (X : Cx) (M : Mm) (hi : IM M) (am : Int) (ham : inI am) (ham2 : 1 ≤ am ∧ am ≤ 20) : ∀ (kk : Nat) (n : Int) (w : Int) (M1 : Mm) (ic1 : IM M1) (fr1 : Fr (fun c => c = 115) M M1) (hnn : n = M 99 3) (lv : LV (M1 115) (M 99) am n (w + 1)) (h0 : -1 ≤ w) (h1 : w < n), (w + 1).toNat = kk → G X 1 RX10 cX10_findMixes 10 none (Qv (fun M1 => IM M1 ∧ Fr (fun c => c = 115) M M1 ∧ (LV (M1 115) (M 99) am (M 99 3) 0))) 70 [(2, vi n), (3, vi w), (0, vr X 97), (1, vi am)] [] M1 := by
  intro kk
  induction kk using Nat.strongRecOn with
  | ind kk ih =>
    intro n w M1 ic1 fr1 hnn lv h0 h1 hmes
    have p3 := hi.1.2.2.2.1
    refine g_iload_n (pc' := 71) 1 dX10_findMixes_70 rfl rfl ?_
    refine g_if_lt (pc' := 74) (tgt := 264) ⟨by omega, by omega⟩ dX10_findMixes_71 rfl rfl (fun c1 => ?_) (fun c1 => ?_)
    · refine g_vreturn dX10_findMixes_264 ?_
      exact ⟨ic1, fr1, by rw [← hnn]; exact fun w1 a1 s1 k1 => lv w1 a1 s1 (by omega)⟩
    · refine g_iconst (pc' := 75) dX10_findMixes_74 rfl ?_
      refine g_istore (pc' := 77) (L' := [(4, vi 0), (2, vi n), (3, vi w), (0, vr X 97), (1, vi am)]) dX10_findMixes_75 rfl (by decide) rfl ?_
      refine g_sub [1, 2, 0, 3, 4] rfl ?_
      exact l_X10_findMixes_77 X M hi am ham ham2 kk ih _ n w 0 M1 ic1 fr1 (by omega) (by omega) (by omega) (by omega) (LPt.start lv) (by omega) (by omega) rfl
set_option maxHeartbeats 4000000 in
set_option maxRecDepth 100000 in
theorem l_X10_findMixes_17 (X : Cx) (M : Mm) (hi : IM M) (am : Int) (ham : inI am) (ham2 : 1 ≤ am ∧ am ≤ 20) (n9 : Nat) (ihO : ∀ mO : Nat, mO < n9 → ∀ (n : Int) (a : Int) (M1 : Mm) (ic1 : IM M1) (fr1 : Fr (fun c => c = 115) M M1) (hnn : n = M 99 3) (ln : LN (M1 115) am n a 0) (h0 : 0 ≤ a) (h1 : a ≤ am + 1), (am + 1 - a).toNat = mO → G X 1 RX10 cX10_findMixes 10 none (Qv (fun M1 => IM M1 ∧ Fr (fun c => c = 115) M M1 ∧ (LV (M1 115) (M 99) am (M 99 3) 0))) 9 [(2, vi n), (3, vi a), (0, vr X 97), (1, vi am)] [] M1) : ∀ (kk : Nat) (n : Int) (a : Int) (s : Int) (M1 : Mm) (ic1 : IM M1) (fr1 : Fr (fun c => c = 115) M M1) (hnn : n = M 99 3) (ln : LN (M1 115) am n a s) (h0 : 0 ≤ a) (h1 : a ≤ am) (aO : n9 = (am + 1 - a).toNat) (k0 : 0 ≤ s) (k1 : s ≤ 100 * am + 1), (100 * am + 1 - s).toNat = kk → G X 1 RX10 cX10_findMixes 10 none (Qv (fun M1 => IM M1 ∧ Fr (fun c => c = 115) M M1 ∧ (LV (M1 115) (M 99) am (M 99 3) 0))) 17 [(2, vi n), (3, vi a), (4, vi s), (0, vr X 97), (1, vi am)] [] M1 := by
  intro kk
  induction kk using Nat.strongRecOn with
  | ind kk ih =>
    intro n a s M1 ic1 fr1 hnn ln h0 h1 aO k0 k1 hmes
    have p3 := hi.1.2.2.2.1
    refine g_iload (pc' := 19) 2 dX10_findMixes_17 rfl rfl ?_
    refine g_bipush (pc' := 21) (v := 100) dX10_findMixes_19 rfl (by decide) ?_
    refine g_iload_n (pc' := 22) 4 dX10_findMixes_21 rfl rfl ?_
    refine g_imul (pc' := 23) dX10_findMixes_22 rfl ?_
    refine g_ic_gt (pc' := 26) (tgt := 60) ⟨by omega, by omega⟩ ⟨by omega, by omega⟩ dX10_findMixes_23 rfl rfl (fun c1 => ?_) (fun c1 => ?_)
    · refine g_iinc (pc' := 63) (L' := [(3, vi (a + 1)), (2, vi n), (4, vi s), (0, vr X 97), (1, vi am)]) 1 dX10_findMixes_60 rfl rfl (by decide) rfl ?_
      refine g_goto (tgt := 9) dX10_findMixes_63 rfl ?_
      refine g_sub [1, 0, 3, 4] rfl ?_
      exact ihO _ (by omega) n (a + 1) M1 ic1 fr1 (by omega) (LN.row ln (by omega)) (by omega) (by omega) rfl
    · refine g_aload_n (pc' := 27) 3 dX10_findMixes_26 rfl rfl ?_
      refine g_getR (pc' := 30) dX10_findMixes_27 rfl f_X10_71 rfl rfl ?_
      refine g_iload_n (pc' := 31) 0 dX10_findMixes_30 rfl rfl ?_
      refine g_iload_n (pc' := 32) 1 dX10_findMixes_31 rfl rfl ?_
      refine g_iload (pc' := 34) 2 dX10_findMixes_32 rfl rfl ?_
      refine g_callSip (pc' := 37) (As := [vi n, vi a, vi s]) (S := [vr X 115]) dX10_findMixes_34 rfl m_X10_385 w_X10_at (c_X10_at X M1 n ⟨by omega, by omega⟩ a ⟨by omega, by omega⟩ s ⟨by omega, by omega⟩ (by omega) (by omega) (by omega)) rfl (by decide) (by decide) rfl (Nat.le_of_ble_eq_true rfl) (fun z3 q2 => ?_)
      refine g_iload_n (pc' := 38) 1 dX10_findMixes_37 rfl rfl ?_
      refine g_if_ne (pc' := 41) (tgt := 50) ⟨by omega, by omega⟩ dX10_findMixes_38 rfl rfl (fun c4 => ?_) (fun c4 => ?_)
      · refine g_ldcw (pc' := 53) (v := 1000000) dX10_findMixes_50 rfl k_X10_388 ?_
        refine g_iast (pc' := 54) dX10_findMixes_53 rfl rfl (by omega) (by omega) (by decide) (fun M5 hM5 => ?_)
        have iM5 : IM M5 := IM.wr ic1 hM5 (by unfold okv; first | decide | omega)
        have fM5 : Fr (fun c => c = 115) M M5 := Fr.wr fr1 hM5 (by first | decide | omega | (dsimp only; omega))
        have lnM5 : LN (M5 115) am n a (s + 1) := LN.step ln (by rw [hM5, mu_is]) (by rw [q2]; rfl) (by omega) (by omega) (by omega) (by omega) (by omega)
        refine g_iinc (pc' := 57) (L' := [(4, vi (s + 1)), (2, vi n), (3, vi a), (0, vr X 97), (1, vi am)]) 2 dX10_findMixes_54 rfl rfl (by decide) rfl ?_
        refine g_goto (tgt := 17) dX10_findMixes_57 rfl ?_
        refine g_sub [1, 2, 0, 3, 4] rfl ?_
        exact ih _ (by omega) n a (s + 1) M5 iM5 fM5 (by omega) lnM5 (by omega) (by omega) (by omega) (by omega) (by omega) rfl
      · refine g_iload (pc' := 43) 2 dX10_findMixes_41 rfl rfl ?_
        refine g_if_ne (pc' := 46) (tgt := 50) ⟨by omega, by omega⟩ dX10_findMixes_43 rfl rfl (fun c6 => ?_) (fun c6 => ?_)
        · refine g_ldcw (pc' := 53) (v := 1000000) dX10_findMixes_50 rfl k_X10_388 ?_
          refine g_iast (pc' := 54) dX10_findMixes_53 rfl rfl (by omega) (by omega) (by decide) (fun M7 hM7 => ?_)
          have iM7 : IM M7 := IM.wr ic1 hM7 (by unfold okv; first | decide | omega)
          have fM7 : Fr (fun c => c = 115) M M7 := Fr.wr fr1 hM7 (by first | decide | omega | (dsimp only; omega))
          have lnM7 : LN (M7 115) am n a (s + 1) := LN.step ln (by rw [hM7, mu_is]) (by rw [q2]; rfl) (by omega) (by omega) (by omega) (by omega) (by omega)
          refine g_iinc (pc' := 57) (L' := [(4, vi (s + 1)), (2, vi n), (3, vi a), (0, vr X 97), (1, vi am)]) 2 dX10_findMixes_54 rfl rfl (by decide) rfl ?_
          refine g_goto (tgt := 17) dX10_findMixes_57 rfl ?_
          refine g_sub [1, 2, 0, 3, 4] rfl ?_
          exact ih _ (by omega) n a (s + 1) M7 iM7 fM7 (by omega) lnM7 (by omega) (by omega) (by omega) (by omega) (by omega) rfl
        · refine g_iconst (pc' := 47) dX10_findMixes_46 rfl ?_
          refine g_goto (tgt := 53) dX10_findMixes_47 rfl ?_
          refine g_iast (pc' := 54) dX10_findMixes_53 rfl rfl (by omega) (by omega) (by decide) (fun M8 hM8 => ?_)
          have iM8 : IM M8 := IM.wr ic1 hM8 (by unfold okv; first | decide | omega)
          have fM8 : Fr (fun c => c = 115) M M8 := Fr.wr fr1 hM8 (by first | decide | omega | (dsimp only; omega))
          have lnM8 : LN (M8 115) am n a (s + 1) := LN.step ln (by rw [hM8, mu_is]) (by rw [q2]; rfl) (by omega) (by omega) (by omega) (by omega) (by omega)
          refine g_iinc (pc' := 57) (L' := [(4, vi (s + 1)), (2, vi n), (3, vi a), (0, vr X 97), (1, vi am)]) 2 dX10_findMixes_54 rfl rfl (by decide) rfl ?_
          refine g_goto (tgt := 17) dX10_findMixes_57 rfl ?_
          refine g_sub [1, 2, 0, 3, 4] rfl ?_
          exact ih _ (by omega) n a (s + 1) M8 iM8 fM8 (by omega) lnM8 (by omega) (by omega) (by omega) (by omega) (by omega) rfl
set_option maxHeartbeats 4000000 in
set_option maxRecDepth 100000 in
theorem l_X10_findMixes_9 (X : Cx) (M : Mm) (hi : IM M) (am : Int) (ham : inI am) (ham2 : 1 ≤ am ∧ am ≤ 20) : ∀ (kk : Nat) (n : Int) (a : Int) (M1 : Mm) (ic1 : IM M1) (fr1 : Fr (fun c => c = 115) M M1) (hnn : n = M 99 3) (ln : LN (M1 115) am n a 0) (h0 : 0 ≤ a) (h1 : a ≤ am + 1), (am + 1 - a).toNat = kk → G X 1 RX10 cX10_findMixes 10 none (Qv (fun M1 => IM M1 ∧ Fr (fun c => c = 115) M M1 ∧ (LV (M1 115) (M 99) am (M 99 3) 0))) 9 [(2, vi n), (3, vi a), (0, vr X 97), (1, vi am)] [] M1 := by
  intro kk
  induction kk using Nat.strongRecOn with
  | ind kk ih =>
    intro n a M1 ic1 fr1 hnn ln h0 h1 hmes
    have p3 := hi.1.2.2.2.1
    refine g_iload_n (pc' := 10) 1 dX10_findMixes_9 rfl rfl ?_
    refine g_iload_n (pc' := 11) 3 dX10_findMixes_10 rfl rfl ?_
    refine g_ic_gt (pc' := 14) (tgt := 66) ⟨by omega, by omega⟩ ham dX10_findMixes_11 rfl rfl (fun c1 => ?_) (fun c1 => ?_)
    · refine g_iload_n (pc' := 67) 0 dX10_findMixes_66 rfl rfl ?_
      refine g_iconst (pc' := 68) dX10_findMixes_67 rfl ?_
      refine g_isub (pc' := 69) dX10_findMixes_68 rfl ?_
      obtain ⟨x2, ex2⟩ : ∃ z : Int, z = n - 1 := ⟨_, rfl⟩
      rw [← ex2]
      refine g_istore_n (pc' := 70) (i := 3) (L' := [(3, vi x2), (2, vi n), (0, vr X 97), (1, vi am)]) dX10_findMixes_69 rfl rfl (by decide) rfl ?_
      refine g_sub [1, 0, 2, 3] rfl ?_
      exact l_X10_findMixes_70 X M hi am ham ham2 _ n x2 M1 ic1 fr1 (by omega) (LN.done2 ln (by omega) (by omega)) (by omega) (by omega) rfl
    · refine g_iconst (pc' := 15) dX10_findMixes_14 rfl ?_
      refine g_istore (pc' := 17) (L' := [(4, vi 0), (2, vi n), (3, vi a), (0, vr X 97), (1, vi am)]) dX10_findMixes_15 rfl (by decide) rfl ?_
      refine g_sub [1, 2, 0, 3, 4] rfl ?_
      exact l_X10_findMixes_17 X M hi am ham ham2 kk ih _ n a 0 M1 ic1 fr1 (by omega) ln (by omega) (by omega) (by omega) (by omega) (by omega) rfl
set_option maxHeartbeats 4000000 in
set_option maxRecDepth 100000 in
theorem c_X10_findMixes (X : Cx) (M : Mm) (hi : IM M) (am : Int) (ham : inI am) (ham2 : 1 ≤ am ∧ am ≤ 20) : Con X 1 yX10_findMixes cX10_findMixes 10 none [vr X 97, vi am] M (Qv (fun M1 => IM M1 ∧ Fr (fun c => c = 115) M M1 ∧ (LV (M1 115) (M 99) am (M 99 3) 0))) := by
  refine Con.ofG rfl (Nat.le_of_ble_eq_true rfl) ?_
  show G X 1 RX10 cX10_findMixes 10 none (Qv (fun M1 => IM M1 ∧ Fr (fun c => c = 115) M M1 ∧ (LV (M1 115) (M 99) am (M 99 3) 0))) 0 [(0, vr X 97), (1, vi am)] [] M
  have p3 := hi.1.2.2.2.1
  refine g_aload_n (pc' := 1) 0 dX10_findMixes_0 rfl rfl ?_
  refine g_getR (pc' := 4) dX10_findMixes_1 rfl f_X10_13 rfl rfl ?_
  refine g_iconst (pc' := 5) dX10_findMixes_4 rfl ?_
  refine g_iald (pc' := 6) dX10_findMixes_5 rfl rfl (by decide) (by decide) (fun v1 ev1 rv1 => ?_)
  have ev1 : v1 = M 99 3 := ev1
  have bv1 : 0 ≤ v1 ∧ v1 ≤ 6 := by rw [ev1]; exact hi.1.2.2.2.1
  refine g_istore_n (pc' := 7) (i := 2) (L' := [(2, vi v1), (0, vr X 97), (1, vi am)]) dX10_findMixes_6 rfl rfl (by decide) rfl ?_
  refine g_iconst (pc' := 8) dX10_findMixes_7 rfl ?_
  refine g_istore_n (pc' := 9) (i := 3) (L' := [(3, vi 0), (2, vi v1), (0, vr X 97), (1, vi am)]) dX10_findMixes_8 rfl rfl (by decide) rfl ?_
  refine g_sub [1, 0, 2, 3] rfl ?_
  exact l_X10_findMixes_9 X M hi am ham ham2 _ v1 0 M hi Fr.rf (by omega) (LN.zero _ _ _) (by omega) (by omega) rfl
set_option maxHeartbeats 4000000 in
set_option maxRecDepth 100000 in
theorem c_X10_isLeast (X : Cx) (M : Mm) (hi : IM M) (w : Int) (hw : inI w) (a : Int) (ha : inI a) (s : Int) (hs : inI s) (x : Int) (hx : inI x) (am : Int) (lv : LV (M 115) (M 99) am (M 99 3) 0) (ham : am ≤ 20) (hw5 : 0 ≤ w ∧ w < M 99 3) (haa : 0 ≤ a ∧ a ≤ am) (hss : 0 ≤ s ∧ s ≤ 100 * a) (hxx : 0 ≤ x ∧ x ≤ a) : Con X 1 yX10_isLeast cX10_isLeast 6 (some .boolean) [vr X 97, vi w, vi a, vi s, vi x] M (Qi (fun r M1 => M1 = M ∧ ((r = 1 ∧ ISL (M 115) (M 99) w a s x) ∨ (r = 0 ∧ ¬ ISL (M 115) (M 99) w a s x)))) := by
  refine Con.ofG rfl (Nat.le_of_ble_eq_true rfl) ?_
  show G X 1 RX10 cX10_isLeast 6 (some .boolean) (Qi (fun r M1 => M1 = M ∧ ((r = 1 ∧ ISL (M 115) (M 99) w a s x) ∨ (r = 0 ∧ ¬ ISL (M 115) (M 99) w a s x)))) 0 [(0, vr X 97), (1, vi w), (2, vi a), (3, vi s), (4, vi x)] [] M
  have p3 := hi.1.2.2.2.1
  refine g_iload_n (pc' := 1) 3 dX10_isLeast_0 rfl rfl ?_
  refine g_iload (pc' := 3) 4 dX10_isLeast_1 rfl rfl ?_
  refine g_aload_n (pc' := 4) 0 dX10_isLeast_3 rfl rfl ?_
  refine g_getR (pc' := 7) dX10_isLeast_4 rfl f_X10_13 rfl rfl ?_
  refine g_bipush (pc' := 9) (v := 31) dX10_isLeast_7 rfl (by decide) ?_
  refine g_iconst (pc' := 10) dX10_isLeast_9 rfl ?_
  refine g_iload_n (pc' := 11) 1 dX10_isLeast_10 rfl rfl ?_
  refine g_imul (pc' := 12) dX10_isLeast_11 rfl ?_
  refine g_iadd (pc' := 13) dX10_isLeast_12 rfl ?_
  refine g_iald (pc' := 14) dX10_isLeast_13 rfl rfl (by omega) (by omega) (fun v1 ev1 rv1 => ?_)
  have dv1 := hi.1.wi (i := (31 + (3 * w))) (by omega) (by omega)
  rw [← ev1] at dv1
  refine g_imul (pc' := 15) dX10_isLeast_14 rfl ?_
  have mpp := mulC (x := x) (v := v1) (B := 20) (C := 100) (by omega) (by omega) (by omega) (by omega)
  obtain ⟨pp, hpp⟩ : ∃ z : Int, z = x * v1 := ⟨_, rfl⟩
  rw [← hpp] at mpp ⊢
  have gpp : pp = x * M 99 (31 + 3 * w).toNat := by rw [hpp, ev1]
  refine g_isub (pc' := 16) dX10_isLeast_15 rfl ?_
  obtain ⟨x2, ex2⟩ : ∃ z : Int, z = s - pp := ⟨_, rfl⟩
  rw [← ex2]
  refine g_istore (pc' := 18) (L' := [(5, vi x2), (0, vr X 97), (1, vi w), (2, vi a), (3, vi s), (4, vi x)]) dX10_isLeast_16 rfl (by decide) rfl ?_
  refine g_iload (pc' := 20) 0 dX10_isLeast_18 rfl rfl ?_
  refine g_if_lt (pc' := 23) (tgt := 87) ⟨by omega, by omega⟩ dX10_isLeast_20 rfl rfl (fun c3 => ?_) (fun c3 => ?_)
  · refine g_iconst (pc' := 88) dX10_isLeast_87 rfl ?_
    refine g_zreturn dX10_isLeast_88 (by omega) ?_
    exact ⟨rfl, Or.inr ⟨rfl, by first | exact ISL.n1 gpp (L := x2) (by omega) (by omega) | exact ISL.n2 gpp (L := x2) (by omega) (by omega)⟩⟩
  · refine g_iload (pc' := 25) 0 dX10_isLeast_23 rfl rfl ?_
    refine g_bipush (pc' := 27) (v := 100) dX10_isLeast_25 rfl (by decide) ?_
    refine g_iload_n (pc' := 28) 3 dX10_isLeast_27 rfl rfl ?_
    refine g_iload (pc' := 30) 5 dX10_isLeast_28 rfl rfl ?_
    refine g_isub (pc' := 31) dX10_isLeast_30 rfl ?_
    refine g_imul (pc' := 32) dX10_isLeast_31 rfl ?_
    refine g_ic_gt (pc' := 35) (tgt := 87) ⟨by omega, by omega⟩ ⟨by omega, by omega⟩ dX10_isLeast_32 rfl rfl (fun c4 => ?_) (fun c4 => ?_)
    · refine g_iconst (pc' := 88) dX10_isLeast_87 rfl ?_
      refine g_zreturn dX10_isLeast_88 (by omega) ?_
      exact ⟨rfl, Or.inr ⟨rfl, by first | exact ISL.n1 gpp (L := x2) (by omega) (by omega) | exact ISL.n2 gpp (L := x2) (by omega) (by omega)⟩⟩
    · refine g_aload_n (pc' := 36) 1 dX10_isLeast_35 rfl rfl ?_
      refine g_getR (pc' := 39) dX10_isLeast_36 rfl f_X10_71 rfl rfl ?_
      refine g_iload_n (pc' := 40) 2 dX10_isLeast_39 rfl rfl ?_
      refine g_iconst (pc' := 41) dX10_isLeast_40 rfl ?_
      refine g_iadd (pc' := 42) dX10_isLeast_41 rfl ?_
      refine g_iload_n (pc' := 43) 3 dX10_isLeast_42 rfl rfl ?_
      refine g_iload (pc' := 45) 5 dX10_isLeast_43 rfl rfl ?_
      refine g_isub (pc' := 46) dX10_isLeast_45 rfl ?_
      refine g_iload (pc' := 48) 0 dX10_isLeast_46 rfl rfl ?_
      refine g_callSip (pc' := 51) (As := [vi (w + 1), vi (a - x), vi x2]) (S := [vr X 115]) dX10_isLeast_48 rfl m_X10_385 w_X10_at (c_X10_at X M (w + 1) ⟨by omega, by omega⟩ (a - x) ⟨by omega, by omega⟩ x2 ⟨by omega, by omega⟩ (by omega) (by omega) (by omega)) rfl (by decide) (by decide) rfl (Nat.le_of_ble_eq_true rfl) (fun z6 q5 => ?_)
      refine g_iald (pc' := 52) dX10_isLeast_51 rfl rfl (by omega) (by omega) (fun v7 ev7 rv7 => ?_)
      have gv7 : v7 = M 115 (ix (w + 1) (a - x) (x2)) := by rw [ev7, q5]; rfl
      have bv7 := lv.b gv7 (by omega) (by omega) (by omega) (by omega) (by omega) (by omega)
      refine g_iload (pc' := 54) 5 dX10_isLeast_52 rfl rfl ?_
      refine g_aload_n (pc' := 55) 1 dX10_isLeast_54 rfl rfl ?_
      refine g_getR (pc' := 58) dX10_isLeast_55 rfl f_X10_13 rfl rfl ?_
      refine g_bipush (pc' := 60) (v := 31) dX10_isLeast_58 rfl (by decide) ?_
      refine g_iconst (pc' := 61) dX10_isLeast_60 rfl ?_
      refine g_iload_n (pc' := 62) 2 dX10_isLeast_61 rfl rfl ?_
      refine g_imul (pc' := 63) dX10_isLeast_62 rfl ?_
      refine g_iadd (pc' := 64) dX10_isLeast_63 rfl ?_
      refine g_iconst (pc' := 65) dX10_isLeast_64 rfl ?_
      refine g_iadd (pc' := 66) dX10_isLeast_65 rfl ?_
      refine g_iald (pc' := 67) dX10_isLeast_66 rfl rfl (by omega) (by omega) (fun v8 ev8 rv8 => ?_)
      have dv8 := hi.1.wi (i := ((31 + (3 * w)) + 1)) (by omega) (by omega)
      rw [← ev8] at dv8
      refine g_imul (pc' := 68) dX10_isLeast_67 rfl ?_
      have mpq := mulC (x := x) (v := v8) (B := 20) (C := 99) (by omega) (by omega) (by omega) (by omega)
      obtain ⟨pq, hpq⟩ : ∃ z : Int, z = x * v8 := ⟨_, rfl⟩
      rw [← hpq] at mpq ⊢
      have gpq : pq = x * M 99 (31 + 3 * w + 1).toNat := by rw [hpq, ev8]
      refine g_iadd (pc' := 69) dX10_isLeast_68 rfl ?_
      refine g_aload_n (pc' := 70) 1 dX10_isLeast_69 rfl rfl ?_
      refine g_getR (pc' := 73) dX10_isLeast_70 rfl f_X10_71 rfl rfl ?_
      refine g_iload_n (pc' := 74) 2 dX10_isLeast_73 rfl rfl ?_
      refine g_iload_n (pc' := 75) 3 dX10_isLeast_74 rfl rfl ?_
      refine g_iload_n (pc' := 76) 4 dX10_isLeast_75 rfl rfl ?_
      refine g_callSip (pc' := 79) (As := [vi w, vi a, vi s]) (S := [vr X 115, vi (v7 + pq)]) dX10_isLeast_76 rfl m_X10_385 w_X10_at (c_X10_at X M w hw a ha s hs (by omega) (by omega) (by omega)) rfl (by decide) (by decide) rfl (Nat.le_of_ble_eq_true rfl) (fun z10 q9 => ?_)
      refine g_iald (pc' := 80) dX10_isLeast_79 rfl rfl (by omega) (by omega) (fun v11 ev11 rv11 => ?_)
      have gv11 : v11 = M 115 (ix (w) (a) (s)) := by rw [ev11, q9]; rfl
      have bv11 := lv.b gv11 (by omega) (by omega) (by omega) (by omega) (by omega) (by omega)
      refine g_ic_ne (pc' := 83) (tgt := 87) ⟨by omega, by omega⟩ rv11 dX10_isLeast_80 rfl rfl (fun c12 => ?_) (fun c12 => ?_)
      · refine g_iconst (pc' := 88) dX10_isLeast_87 rfl ?_
        refine g_zreturn dX10_isLeast_88 (by omega) ?_
        exact ⟨rfl, Or.inr ⟨rfl, fun z => by have := (ISL.y gpp gpq (L := x2) (by omega) gv7 gv11).1 z; omega⟩⟩
      · refine g_iconst (pc' := 84) dX10_isLeast_83 rfl ?_
        refine g_goto (tgt := 88) dX10_isLeast_84 rfl ?_
        refine g_zreturn dX10_isLeast_88 (by omega) ?_
        exact ⟨rfl, Or.inl ⟨rfl, (ISL.y gpp gpq (L := x2) (by omega) gv7 gv11).2 ⟨by omega, by omega, by omega⟩⟩⟩
set_option maxHeartbeats 4000000 in
set_option maxRecDepth 100000 in
theorem l_X10_mix_117 (X : Cx) (M : Mm) (hi : IM M) (am : Int) (ham : inI am) (sg : Int) (hsg : inI sg) (wt : Int) (hwt : inI wt) (n108 : Nat) (ihO : ∀ mO : Nat, mO < n108 → ∀ (a : Int) (s : Int) (x : Int) (w : Int) (M1 : Mm) (ic1 : IM M1) (fr1 : Fr (fun c => c = 97 ∨ c = 115) M M1) (q99_0 : (M1 99 0 = M 99 0)) (q99_1 : (M1 99 1 = M 99 1)) (q99_2 : (M1 99 2 = M 99 2)) (q99_3 : (M1 99 3 = M 99 3)) (q100_0 : id (M1 100 0 = M 100 0)) (q100_1 : id (M1 100 1 = M 100 1)) (q100_2 : id (M1 100 2 = M 100 2)) (q100_3 : id (M1 100 3 = M 100 3)) (q100_49 : id (M1 100 49 = M 100 49)) (q100_50 : id (M1 100 50 = M 100 50)) (q100_51 : id (M1 100 51 = M 100 51)) (q100_52 : id (M1 100 52 = M 100 52)) (q103_0 : id (M1 103 0 = M 103 0)) (q103_1 : id (M1 103 1 = M 103 1)) (q97_12 : (M1 97 12 = M 97 12)) (q97_17 : (M1 97 17 = M 97 17)) (q97_33 : (M1 97 33 = M 97 33)) (q97_10 : (M1 97 10 = M 97 10)) (q97_44 : (M1 97 44 = M 97 44)) (q97_1 : (M1 97 1 = M 97 1)) (lv : LV (M1 115) (M1 99) am (M1 99 3) 0) (h20 : 1 ≤ am ∧ am ≤ 20) (hwu : 0 ≤ wt ∧ wt ≤ M1 99 3) (a0 : 0 ≤ a ∧ a ≤ am) (s0 : 0 ≤ s ∧ s ≤ 100 * a) (w0 : 0 ≤ w) (w1 : w ≤ wt) (hl : M1 115 (ix w a s) < 1000000) (hx : inI x), (wt - w).toNat = mO → G X 12 RX10 cX10_mix 9 (some .int) (Qi (fun r M1 => IM M1 ∧ Fr (fun c => c = 97 ∨ c = 115) M M1 ∧ M1 99 0 = M 99 0 ∧ M1 99 1 = M 99 1 ∧ M1 99 2 = M 99 2 ∧ M1 99 3 = M 99 3 ∧ M1 100 0 = M 100 0 ∧ M1 100 1 = M 100 1 ∧ M1 100 2 = M 100 2 ∧ M1 100 3 = M 100 3 ∧ M1 100 49 = M 100 49 ∧ M1 100 50 = M 100 50 ∧ M1 100 51 = M 100 51 ∧ M1 100 52 = M 100 52 ∧ M1 103 0 = M 103 0 ∧ M1 103 1 = M 103 1 ∧ M1 97 12 = M 97 12 ∧ M1 97 17 = M 97 17 ∧ M1 97 33 = M 97 33 ∧ M1 97 10 = M 97 10 ∧ M1 97 44 = M 97 44 ∧ M1 97 1 = M 97 1 ∧ (inI r))) 108 [(4, vi a), (5, vi s), (7, vi x), (8, vi w), (0, vr X 97), (3, vi wt)] [] M1) : ∀ (kk : Nat) (a : Int) (s : Int) (x : Int) (w : Int) (M1 : Mm) (ic1 : IM M1) (fr1 : Fr (fun c => c = 97 ∨ c = 115) M M1) (q99_0 : (M1 99 0 = M 99 0)) (q99_1 : (M1 99 1 = M 99 1)) (q99_2 : (M1 99 2 = M 99 2)) (q99_3 : (M1 99 3 = M 99 3)) (q100_0 : id (M1 100 0 = M 100 0)) (q100_1 : id (M1 100 1 = M 100 1)) (q100_2 : id (M1 100 2 = M 100 2)) (q100_3 : id (M1 100 3 = M 100 3)) (q100_49 : id (M1 100 49 = M 100 49)) (q100_50 : id (M1 100 50 = M 100 50)) (q100_51 : id (M1 100 51 = M 100 51)) (q100_52 : id (M1 100 52 = M 100 52)) (q103_0 : id (M1 103 0 = M 103 0)) (q103_1 : id (M1 103 1 = M 103 1)) (q97_12 : (M1 97 12 = M 97 12)) (q97_17 : (M1 97 17 = M 97 17)) (q97_33 : (M1 97 33 = M 97 33)) (q97_10 : (M1 97 10 = M 97 10)) (q97_44 : (M1 97 44 = M 97 44)) (q97_1 : (M1 97 1 = M 97 1)) (lv : LV (M1 115) (M1 99) am (M1 99 3) 0) (h20 : 1 ≤ am ∧ am ≤ 20) (hwu : 0 ≤ wt ∧ wt ≤ M1 99 3) (a0 : 0 ≤ a ∧ a ≤ am) (s0 : 0 ≤ s ∧ s ≤ 100 * a) (w0 : 0 ≤ w) (w1 : w < wt) (hl : M1 115 (ix w a s) < 1000000) (aO : n108 = (wt - w).toNat) (t : Int) (hT : ISL (M1 115) (M1 99) w a s t) (x0 : 0 ≤ x) (x1 : x ≤ t ∧ t ≤ a), (t - x).toNat = kk → G X 12 RX10 cX10_mix 9 (some .int) (Qi (fun r M1 => IM M1 ∧ Fr (fun c => c = 97 ∨ c = 115) M M1 ∧ M1 99 0 = M 99 0 ∧ M1 99 1 = M 99 1 ∧ M1 99 2 = M 99 2 ∧ M1 99 3 = M 99 3 ∧ M1 100 0 = M 100 0 ∧ M1 100 1 = M 100 1 ∧ M1 100 2 = M 100 2 ∧ M1 100 3 = M 100 3 ∧ M1 100 49 = M 100 49 ∧ M1 100 50 = M 100 50 ∧ M1 100 51 = M 100 51 ∧ M1 100 52 = M 100 52 ∧ M1 103 0 = M 103 0 ∧ M1 103 1 = M 103 1 ∧ M1 97 12 = M 97 12 ∧ M1 97 17 = M 97 17 ∧ M1 97 33 = M 97 33 ∧ M1 97 10 = M 97 10 ∧ M1 97 44 = M 97 44 ∧ M1 97 1 = M 97 1 ∧ (inI r))) 117 [(4, vi a), (5, vi s), (7, vi x), (8, vi w), (0, vr X 97), (3, vi wt)] [] M1 := by
  intro kk
  induction kk using Nat.strongRecOn with
  | ind kk ih =>
    intro a s x w M1 ic1 fr1 q99_0 q99_1 q99_2 q99_3 q100_0 q100_1 q100_2 q100_3 q100_49 q100_50 q100_51 q100_52 q103_0 q103_1 q97_12 q97_17 q97_33 q97_10 q97_44 q97_1 lv h20 hwu a0 s0 w0 w1 hl aO t hT x0 x1 hmes
    have p0 := hi.1.1
    have p1 := hi.1.2.1
    have p2 := hi.1.2.2.1
    have p3 := hi.1.2.2.2.1
    have p12 := hi.2.2.2.1
    have q3 := ic1.1.2.2.2.1
    refine g_aload_n (pc' := 118) 4 dX10_mix_117 rfl rfl ?_
    refine g_iload (pc' := 120) 3 dX10_mix_118 rfl rfl ?_
    refine g_iload (pc' := 122) 0 dX10_mix_120 rfl rfl ?_
    refine g_iload (pc' := 124) 1 dX10_mix_122 rfl rfl ?_
    refine g_iload (pc' := 126) 2 dX10_mix_124 rfl rfl ?_
    refine g_callVip (pc' := 129) (As := [vi w, vi a, vi s, vi x]) (b := 97) (S := []) dX10_mix_126 rfl m_X10_392 w_X10_isLeast (c_X10_isLeast X M1 ic1 w ⟨by omega, by omega⟩ a ⟨by omega, by omega⟩ s ⟨by omega, by omega⟩ x ⟨by omega, by omega⟩ am lv (by omega) (by omega) (by omega) (by omega) (by omega)) rfl ⟨_, _, _, rfl, rfl, rfl⟩ (by decide) (by decide) rfl (Nat.le_of_ble_eq_true rfl) (fun z2 q1 => ?_)
    refine g_if_ne (pc' := 132) (tgt := 138) ⟨by omega, by omega⟩ dX10_mix_129 rfl rfl (fun c3 => ?_) (fun c3 => ?_)
    · replace q1 := q1.resolve_right (fun h => c3 h.1)
      have hI : ISL (M1 115) (M1 99) w a s x := q1.2
      refine g_iload (pc' := 140) 0 dX10_mix_138 rfl rfl ?_
      refine g_iload (pc' := 142) 2 dX10_mix_140 rfl rfl ?_
      refine g_isub (pc' := 143) dX10_mix_142 rfl ?_
      obtain ⟨x4, ex4⟩ : ∃ z : Int, z = a - x := ⟨_, rfl⟩
      rw [← ex4]
      refine g_istore (pc' := 145) (L' := [(4, vi x4), (5, vi s), (7, vi x), (8, vi w), (0, vr X 97), (3, vi wt)]) dX10_mix_143 rfl (by decide) rfl ?_
      refine g_iload (pc' := 147) 1 dX10_mix_145 rfl rfl ?_
      refine g_iload (pc' := 149) 2 dX10_mix_147 rfl rfl ?_
      refine g_aload_n (pc' := 150) 4 dX10_mix_149 rfl rfl ?_
      refine g_getR (pc' := 153) dX10_mix_150 rfl f_X10_13 rfl rfl ?_
      refine g_bipush (pc' := 155) (v := 31) dX10_mix_153 rfl (by decide) ?_
      refine g_iconst (pc' := 156) dX10_mix_155 rfl ?_
      refine g_iload (pc' := 158) 3 dX10_mix_156 rfl rfl ?_
      refine g_imul (pc' := 159) dX10_mix_158 rfl ?_
      refine g_iadd (pc' := 160) dX10_mix_159 rfl ?_
      refine g_iald (pc' := 161) dX10_mix_160 rfl rfl (by omega) (by omega) (fun v5 ev5 rv5 => ?_)
      have dv5 := ic1.1.wi (i := (31 + (3 * w))) (by omega) (by omega)
      rw [← ev5] at dv5
      have d2v5 := (ic1.1.wi (i := 31 + 3 * w + 1) (by omega) (by omega)).2.1 (by omega)
      refine g_imul (pc' := 162) dX10_mix_161 rfl ?_
      have mpp := mulC (x := x) (v := v5) (B := 20) (C := 100) (by omega) (by omega) (by omega) (by omega)
      obtain ⟨pp, hpp⟩ : ∃ z : Int, z = x * v5 := ⟨_, rfl⟩
      rw [← hpp] at mpp ⊢
      have gpp : pp = x * M1 99 (31 + 3 * w).toNat := by rw [hpp, ev5]
      obtain ⟨l0, l1, l2⟩ := ISL.go hI gpp (L := s - pp) rfl d2v5.1 (by omega) hl
      refine g_isub (pc' := 163) dX10_mix_162 rfl ?_
      obtain ⟨x6, ex6⟩ : ∃ z : Int, z = s - pp := ⟨_, rfl⟩
      rw [← ex6]
      refine g_istore (pc' := 165) (L' := [(5, vi x6), (4, vi x4), (7, vi x), (8, vi w), (0, vr X 97), (3, vi wt)]) dX10_mix_163 rfl (by decide) rfl ?_
      refine g_iinc (pc' := 168) (L' := [(8, vi (w + 1)), (5, vi x6), (4, vi x4), (7, vi x), (0, vr X 97), (3, vi wt)]) 3 dX10_mix_165 rfl rfl (by decide) rfl ?_
      refine g_goto (tgt := 108) dX10_mix_168 rfl ?_
      refine g_sub [2, 1, 3, 0, 4, 5] rfl ?_
      exact ihO _ (by omega) x4 x6 x (w + 1) M1 ic1 fr1 q99_0 q99_1 q99_2 q99_3 q100_0 q100_1 q100_2 q100_3 q100_49 q100_50 q100_51 q100_52 q103_0 q103_1 q97_12 q97_17 q97_33 q97_10 q97_44 q97_1 lv (by omega) (by omega) (by omega) (by omega) (by omega) (by omega) (by rw [ex4, ex6]; exact l2) (by first | assumption | decide | exact ⟨by omega, by omega⟩) rfl
    · replace q1 := q1.resolve_left (fun h => absurd (c3.symm.trans h.1) (by decide))
      have hxt : x ≠ t := by
        intro y
        have z := q1.2
        rw [y] at z
        exact z hT
      refine g_iinc (pc' := 135) (L' := [(7, vi (x + 1)), (4, vi a), (5, vi s), (8, vi w), (0, vr X 97), (3, vi wt)]) 2 dX10_mix_132 rfl rfl (by decide) rfl ?_
      refine g_goto (tgt := 117) dX10_mix_135 rfl ?_
      refine g_sub [1, 2, 0, 3, 4, 5] rfl ?_
      exact ih _ (by omega) a s (x + 1) w M1 ic1 fr1 q99_0 q99_1 q99_2 q99_3 q100_0 q100_1 q100_2 q100_3 q100_49 q100_50 q100_51 q100_52 q103_0 q103_1 q97_12 q97_17 q97_33 q97_10 q97_44 q97_1 lv (by omega) (by omega) (by omega) (by omega) (by omega) (by omega) hl (by omega) t hT (by omega) (by omega) rfl
set_option maxHeartbeats 4000000 in
set_option maxRecDepth 100000 in
theorem l_X10_mix_108 (X : Cx) (M : Mm) (hi : IM M) (am : Int) (ham : inI am) (sg : Int) (hsg : inI sg) (wt : Int) (hwt : inI wt) : ∀ (kk : Nat) (a : Int) (s : Int) (x : Int) (w : Int) (M1 : Mm) (ic1 : IM M1) (fr1 : Fr (fun c => c = 97 ∨ c = 115) M M1) (q99_0 : (M1 99 0 = M 99 0)) (q99_1 : (M1 99 1 = M 99 1)) (q99_2 : (M1 99 2 = M 99 2)) (q99_3 : (M1 99 3 = M 99 3)) (q100_0 : id (M1 100 0 = M 100 0)) (q100_1 : id (M1 100 1 = M 100 1)) (q100_2 : id (M1 100 2 = M 100 2)) (q100_3 : id (M1 100 3 = M 100 3)) (q100_49 : id (M1 100 49 = M 100 49)) (q100_50 : id (M1 100 50 = M 100 50)) (q100_51 : id (M1 100 51 = M 100 51)) (q100_52 : id (M1 100 52 = M 100 52)) (q103_0 : id (M1 103 0 = M 103 0)) (q103_1 : id (M1 103 1 = M 103 1)) (q97_12 : (M1 97 12 = M 97 12)) (q97_17 : (M1 97 17 = M 97 17)) (q97_33 : (M1 97 33 = M 97 33)) (q97_10 : (M1 97 10 = M 97 10)) (q97_44 : (M1 97 44 = M 97 44)) (q97_1 : (M1 97 1 = M 97 1)) (lv : LV (M1 115) (M1 99) am (M1 99 3) 0) (h20 : 1 ≤ am ∧ am ≤ 20) (hwu : 0 ≤ wt ∧ wt ≤ M1 99 3) (a0 : 0 ≤ a ∧ a ≤ am) (s0 : 0 ≤ s ∧ s ≤ 100 * a) (w0 : 0 ≤ w) (w1 : w ≤ wt) (hl : M1 115 (ix w a s) < 1000000) (hx : inI x), (wt - w).toNat = kk → G X 12 RX10 cX10_mix 9 (some .int) (Qi (fun r M1 => IM M1 ∧ Fr (fun c => c = 97 ∨ c = 115) M M1 ∧ M1 99 0 = M 99 0 ∧ M1 99 1 = M 99 1 ∧ M1 99 2 = M 99 2 ∧ M1 99 3 = M 99 3 ∧ M1 100 0 = M 100 0 ∧ M1 100 1 = M 100 1 ∧ M1 100 2 = M 100 2 ∧ M1 100 3 = M 100 3 ∧ M1 100 49 = M 100 49 ∧ M1 100 50 = M 100 50 ∧ M1 100 51 = M 100 51 ∧ M1 100 52 = M 100 52 ∧ M1 103 0 = M 103 0 ∧ M1 103 1 = M 103 1 ∧ M1 97 12 = M 97 12 ∧ M1 97 17 = M 97 17 ∧ M1 97 33 = M 97 33 ∧ M1 97 10 = M 97 10 ∧ M1 97 44 = M 97 44 ∧ M1 97 1 = M 97 1 ∧ (inI r))) 108 [(4, vi a), (5, vi s), (7, vi x), (8, vi w), (0, vr X 97), (3, vi wt)] [] M1 := by
  intro kk
  induction kk using Nat.strongRecOn with
  | ind kk ih =>
    intro a s x w M1 ic1 fr1 q99_0 q99_1 q99_2 q99_3 q100_0 q100_1 q100_2 q100_3 q100_49 q100_50 q100_51 q100_52 q103_0 q103_1 q97_12 q97_17 q97_33 q97_10 q97_44 q97_1 lv h20 hwu a0 s0 w0 w1 hl hx hmes
    have p0 := hi.1.1
    have p1 := hi.1.2.1
    have p2 := hi.1.2.2.1
    have p3 := hi.1.2.2.2.1
    have p12 := hi.2.2.2.1
    have q3 := ic1.1.2.2.2.1
    refine g_iload (pc' := 110) 3 dX10_mix_108 rfl rfl ?_
    refine g_iload_n (pc' := 111) 5 dX10_mix_110 rfl rfl ?_
    refine g_ic_ge (pc' := 114) (tgt := 171) ⟨by omega, by omega⟩ ⟨by omega, by omega⟩ dX10_mix_111 rfl rfl (fun c1 => ?_) (fun c1 => ?_)
    · refine g_iload (pc' := 173) 2 dX10_mix_171 rfl rfl ?_
      refine g_ireturn dX10_mix_173 ?_
      exact ⟨ic1, fr1, q99_0, q99_1, q99_2, q99_3, q100_0, q100_1, q100_2, q100_3, q100_49, q100_50, q100_51, q100_52, q103_0, q103_1, q97_12, q97_17, q97_33, q97_10, q97_44, q97_1, by first | assumption | decide | omega⟩
    · obtain ⟨t, t0, t1, t2⟩ := ((lv w a s (by omega) (by omega) (by omega) (by omega) (by omega) (by omega)).2 (by omega)).2 hl
      have hT : ISL (M1 115) (M1 99) w a s t := t2
      refine g_iconst (pc' := 115) dX10_mix_114 rfl ?_
      refine g_istore (pc' := 117) (L' := [(7, vi 0), (4, vi a), (5, vi s), (8, vi w), (0, vr X 97), (3, vi wt)]) dX10_mix_115 rfl (by decide) rfl ?_
      refine g_sub [1, 2, 0, 3, 4, 5] rfl ?_
      exact l_X10_mix_117 X M hi am ham sg hsg wt hwt kk ih _ a s 0 w M1 ic1 fr1 q99_0 q99_1 q99_2 q99_3 q100_0 q100_1 q100_2 q100_3 q100_49 q100_50 q100_51 q100_52 q103_0 q103_1 q97_12 q97_17 q97_33 q97_10 q97_44 q97_1 lv (by omega) (by omega) (by omega) (by omega) (by omega) (by omega) hl (by omega) t hT (by omega) (by omega) rfl
set_option maxHeartbeats 4000000 in
set_option maxRecDepth 100000 in
theorem c_X10_mix (X : Cx) (M : Mm) (hi : IM M) (am : Int) (ham : inI am) (sg : Int) (hsg : inI sg) (wt : Int) (hwt : inI wt) : Con X 12 yX10_mix cX10_mix 9 (some .int) [vr X 97, vi am, vi sg, vi wt] M (Qi (fun r M1 => IM M1 ∧ Fr (fun c => c = 97 ∨ c = 115) M M1 ∧ M1 99 0 = M 99 0 ∧ M1 99 1 = M 99 1 ∧ M1 99 2 = M 99 2 ∧ M1 99 3 = M 99 3 ∧ M1 100 0 = M 100 0 ∧ M1 100 1 = M 100 1 ∧ M1 100 2 = M 100 2 ∧ M1 100 3 = M 100 3 ∧ M1 100 49 = M 100 49 ∧ M1 100 50 = M 100 50 ∧ M1 100 51 = M 100 51 ∧ M1 100 52 = M 100 52 ∧ M1 103 0 = M 103 0 ∧ M1 103 1 = M 103 1 ∧ M1 97 12 = M 97 12 ∧ M1 97 17 = M 97 17 ∧ M1 97 33 = M 97 33 ∧ M1 97 10 = M 97 10 ∧ M1 97 44 = M 97 44 ∧ M1 97 1 = M 97 1 ∧ (inI r))) := by
  refine Con.ofG rfl (Nat.le_of_ble_eq_true rfl) ?_
  show G X 12 RX10 cX10_mix 9 (some .int) (Qi (fun r M1 => IM M1 ∧ Fr (fun c => c = 97 ∨ c = 115) M M1 ∧ M1 99 0 = M 99 0 ∧ M1 99 1 = M 99 1 ∧ M1 99 2 = M 99 2 ∧ M1 99 3 = M 99 3 ∧ M1 100 0 = M 100 0 ∧ M1 100 1 = M 100 1 ∧ M1 100 2 = M 100 2 ∧ M1 100 3 = M 100 3 ∧ M1 100 49 = M 100 49 ∧ M1 100 50 = M 100 50 ∧ M1 100 51 = M 100 51 ∧ M1 100 52 = M 100 52 ∧ M1 103 0 = M 103 0 ∧ M1 103 1 = M 103 1 ∧ M1 97 12 = M 97 12 ∧ M1 97 17 = M 97 17 ∧ M1 97 33 = M 97 33 ∧ M1 97 10 = M 97 10 ∧ M1 97 44 = M 97 44 ∧ M1 97 1 = M 97 1 ∧ (inI r))) 0 [(0, vr X 97), (1, vi am), (2, vi sg), (3, vi wt)] [] M
  have p0 := hi.1.1
  have p1 := hi.1.2.1
  have p2 := hi.1.2.2.1
  have p3 := hi.1.2.2.2.1
  have p12 := hi.2.2.2.1
  refine g_aload_n (pc' := 1) 0 dX10_mix_0 rfl rfl ?_
  refine g_iconst (pc' := 2) dX10_mix_1 rfl ?_
  refine g_putI (pc' := 5) dX10_mix_2 rfl p_X10_77 rfl rfl (by decide) (fun M1 hM1 => ?_)
  have iM1 : IM M1 := IM.wr hi hM1 (by unfold okv; first | decide | omega)
  have fM1 : Fr (fun c => c = 97 ∨ c = 115) M M1 := Fr.wr Fr.rf hM1 (by first | decide | omega | (dsimp only; omega))
  have q99_0_M1 : (M1 99 0 = M 99 0) := (show M1 99 0 = M 99 0 by rw [hM1]; exact mu_ne _ _ (by first | decide | omega))
  have q99_1_M1 : (M1 99 1 = M 99 1) := (show M1 99 1 = M 99 1 by rw [hM1]; exact mu_ne _ _ (by first | decide | omega))
  have q99_2_M1 : (M1 99 2 = M 99 2) := (show M1 99 2 = M 99 2 by rw [hM1]; exact mu_ne _ _ (by first | decide | omega))
  have q99_3_M1 : (M1 99 3 = M 99 3) := (show M1 99 3 = M 99 3 by rw [hM1]; exact mu_ne _ _ (by first | decide | omega))
  have q100_0_M1 : id (M1 100 0 = M 100 0) := (show M1 100 0 = M 100 0 by rw [hM1]; exact mu_ne _ _ (by first | decide | omega))
  have q100_1_M1 : id (M1 100 1 = M 100 1) := (show M1 100 1 = M 100 1 by rw [hM1]; exact mu_ne _ _ (by first | decide | omega))
  have q100_2_M1 : id (M1 100 2 = M 100 2) := (show M1 100 2 = M 100 2 by rw [hM1]; exact mu_ne _ _ (by first | decide | omega))
  have q100_3_M1 : id (M1 100 3 = M 100 3) := (show M1 100 3 = M 100 3 by rw [hM1]; exact mu_ne _ _ (by first | decide | omega))
  have q100_49_M1 : id (M1 100 49 = M 100 49) := (show M1 100 49 = M 100 49 by rw [hM1]; exact mu_ne _ _ (by first | decide | omega))
  have q100_50_M1 : id (M1 100 50 = M 100 50) := (show M1 100 50 = M 100 50 by rw [hM1]; exact mu_ne _ _ (by first | decide | omega))
  have q100_51_M1 : id (M1 100 51 = M 100 51) := (show M1 100 51 = M 100 51 by rw [hM1]; exact mu_ne _ _ (by first | decide | omega))
  have q100_52_M1 : id (M1 100 52 = M 100 52) := (show M1 100 52 = M 100 52 by rw [hM1]; exact mu_ne _ _ (by first | decide | omega))
  have q103_0_M1 : id (M1 103 0 = M 103 0) := (show M1 103 0 = M 103 0 by rw [hM1]; exact mu_ne _ _ (by first | decide | omega))
  have q103_1_M1 : id (M1 103 1 = M 103 1) := (show M1 103 1 = M 103 1 by rw [hM1]; exact mu_ne _ _ (by first | decide | omega))
  have q97_12_M1 : (M1 97 12 = M 97 12) := (show M1 97 12 = M 97 12 by rw [hM1]; exact mu_ne _ _ (by first | decide | omega))
  have q97_17_M1 : (M1 97 17 = M 97 17) := (show M1 97 17 = M 97 17 by rw [hM1]; exact mu_ne _ _ (by first | decide | omega))
  have q97_33_M1 : (M1 97 33 = M 97 33) := (show M1 97 33 = M 97 33 by rw [hM1]; exact mu_ne _ _ (by first | decide | omega))
  have q97_10_M1 : (M1 97 10 = M 97 10) := (show M1 97 10 = M 97 10 by rw [hM1]; exact mu_ne _ _ (by first | decide | omega))
  have q97_44_M1 : (M1 97 44 = M 97 44) := (show M1 97 44 = M 97 44 by rw [hM1]; exact mu_ne _ _ (by first | decide | omega))
  have q97_1_M1 : (M1 97 1 = M 97 1) := (show M1 97 1 = M 97 1 by rw [hM1]; exact mu_ne _ _ (by first | decide | omega))
  have xM1_97_0 : M1 97 0 = 0 := by rw [hM1]; exact mu_at _ _ _ _
  refine g_iload_n (pc' := 6) 1 dX10_mix_5 rfl rfl ?_
  refine g_i2l (pc' := 7) ham dX10_mix_6 rfl ?_
  refine g_lconst (pc' := 8) (v := 1) dX10_mix_7 rfl (by decide) ?_
  refine g_ldc2 (pc' := 11) (v := 20) dX10_mix_8 rfl k_X10_204 ?_
  refine g_callSip (pc' := 14) (As := [vl am, vl 1, vl 20]) (S := []) dX10_mix_11 rfl m_X10_83 w_X10_in (c_X10_in X M1 am ⟨by omega, by omega⟩ 1 (by decide) 20 (by decide)) rfl (by decide) (by decide) rfl (Nat.le_of_ble_eq_true rfl) (fun z3 q2 => ?_)
  refine g_if_eq (pc' := 17) (tgt := 45) ⟨by omega, by omega⟩ dX10_mix_14 rfl rfl (fun c4 => ?_) (fun c4 => ?_)
  · replace q2 := q2.resolve_left (fun h => absurd (c4.symm.trans h.1) (by decide))
    refine g_iconst (pc' := 46) dX10_mix_45 rfl ?_
    refine g_ireturn dX10_mix_46 ?_
    exact ⟨iM1, fM1, q99_0_M1, q99_1_M1, q99_2_M1, q99_3_M1, q100_0_M1, q100_1_M1, q100_2_M1, q100_3_M1, q100_49_M1, q100_50_M1, q100_51_M1, q100_52_M1, q103_0_M1, q103_1_M1, q97_12_M1, q97_17_M1, q97_33_M1, q97_10_M1, q97_44_M1, q97_1_M1, by first | assumption | decide | omega⟩
  · replace q2 := q2.resolve_right (fun h => c4 h.1)
    refine g_iload_n (pc' := 18) 2 dX10_mix_17 rfl rfl ?_
    refine g_i2l (pc' := 19) hsg dX10_mix_18 rfl ?_
    refine g_lconst (pc' := 20) (v := 0) dX10_mix_19 rfl (by decide) ?_
    refine g_ldc2 (pc' := 23) (v := 100) dX10_mix_20 rfl k_X10_110 ?_
    refine g_callSip (pc' := 26) (As := [vl sg, vl 0, vl 100]) (S := []) dX10_mix_23 rfl m_X10_83 w_X10_in (c_X10_in X M1 sg ⟨by omega, by omega⟩ 0 (by decide) 100 (by decide)) rfl (by decide) (by decide) rfl (Nat.le_of_ble_eq_true rfl) (fun z6 q5 => ?_)
    refine g_if_eq (pc' := 29) (tgt := 45) ⟨by omega, by omega⟩ dX10_mix_26 rfl rfl (fun c7 => ?_) (fun c7 => ?_)
    · replace q5 := q5.resolve_left (fun h => absurd (c7.symm.trans h.1) (by decide))
      refine g_iconst (pc' := 46) dX10_mix_45 rfl ?_
      refine g_ireturn dX10_mix_46 ?_
      exact ⟨iM1, fM1, q99_0_M1, q99_1_M1, q99_2_M1, q99_3_M1, q100_0_M1, q100_1_M1, q100_2_M1, q100_3_M1, q100_49_M1, q100_50_M1, q100_51_M1, q100_52_M1, q103_0_M1, q103_1_M1, q97_12_M1, q97_17_M1, q97_33_M1, q97_10_M1, q97_44_M1, q97_1_M1, by first | assumption | decide | omega⟩
    · replace q5 := q5.resolve_right (fun h => c7 h.1)
      refine g_iload_n (pc' := 30) 3 dX10_mix_29 rfl rfl ?_
      refine g_i2l (pc' := 31) hwt dX10_mix_30 rfl ?_
      refine g_lconst (pc' := 32) (v := 0) dX10_mix_31 rfl (by decide) ?_
      refine g_aload_n (pc' := 33) 0 dX10_mix_32 rfl rfl ?_
      refine g_getR (pc' := 36) dX10_mix_33 rfl f_X10_13 rfl rfl ?_
      refine g_iconst (pc' := 37) dX10_mix_36 rfl ?_
      refine g_iald (pc' := 38) dX10_mix_37 rfl rfl (by decide) (by decide) (fun v8 ev8 rv8 => ?_)
      have ev8 : v8 = M1 99 3 := ev8
      have bv8 : 0 ≤ v8 ∧ v8 ≤ 6 := by rw [ev8]; exact iM1.1.2.2.2.1
      have av8 : v8 = M 99 3 := ev8.trans q99_3_M1
      refine g_i2l (pc' := 39) rv8 dX10_mix_38 rfl ?_
      refine g_callSip (pc' := 42) (As := [vl wt, vl 0, vl v8]) (S := []) dX10_mix_39 rfl m_X10_83 w_X10_in (c_X10_in X M1 wt ⟨by omega, by omega⟩ 0 (by decide) v8 ⟨by omega, by omega⟩) rfl (by decide) (by decide) rfl (Nat.le_of_ble_eq_true rfl) (fun z10 q9 => ?_)
      refine g_if_ne (pc' := 45) (tgt := 47) ⟨by omega, by omega⟩ dX10_mix_42 rfl rfl (fun c11 => ?_) (fun c11 => ?_)
      · replace q9 := q9.resolve_right (fun h => c11 h.1)
        refine g_aload_n (pc' := 48) 0 dX10_mix_47 rfl rfl ?_
        refine g_iload_n (pc' := 49) 1 dX10_mix_48 rfl rfl ?_
        refine g_callVv (pc' := 52) (As := [vi am]) (b := 97) (S := []) dX10_mix_49 rfl m_X10_389 w_X10_findMixes (c_X10_findMixes X M1 iM1 am ham (by omega)) rfl ⟨_, _, _, rfl, rfl, rfl⟩ (by decide) (by decide) rfl (Nat.le_of_ble_eq_true rfl) (fun M13 q12 => ?_)
        obtain ⟨iM13, fM130, pM13⟩ := q12
        have fM13 : Fr (fun c => c = 97 ∨ c = 115) M M13 := Fr.tr fM1 fM130 fi_42
        have q99_0_M13 : (M13 99 0 = M 99 0) := (congrFun (fM130 99 (by first | decide | omega | (dsimp only; omega))) 0).trans q99_0_M1
        have q99_1_M13 : (M13 99 1 = M 99 1) := (congrFun (fM130 99 (by first | decide | omega | (dsimp only; omega))) 1).trans q99_1_M1
        have q99_2_M13 : (M13 99 2 = M 99 2) := (congrFun (fM130 99 (by first | decide | omega | (dsimp only; omega))) 2).trans q99_2_M1
        have q99_3_M13 : (M13 99 3 = M 99 3) := (congrFun (fM130 99 (by first | decide | omega | (dsimp only; omega))) 3).trans q99_3_M1
        have q100_0_M13 : id (M13 100 0 = M 100 0) := (congrFun (fM130 100 (by first | decide | omega | (dsimp only; omega))) 0).trans q100_0_M1
        have q100_1_M13 : id (M13 100 1 = M 100 1) := (congrFun (fM130 100 (by first | decide | omega | (dsimp only; omega))) 1).trans q100_1_M1
        have q100_2_M13 : id (M13 100 2 = M 100 2) := (congrFun (fM130 100 (by first | decide | omega | (dsimp only; omega))) 2).trans q100_2_M1
        have q100_3_M13 : id (M13 100 3 = M 100 3) := (congrFun (fM130 100 (by first | decide | omega | (dsimp only; omega))) 3).trans q100_3_M1
        have q100_49_M13 : id (M13 100 49 = M 100 49) := (congrFun (fM130 100 (by first | decide | omega | (dsimp only; omega))) 49).trans q100_49_M1
        have q100_50_M13 : id (M13 100 50 = M 100 50) := (congrFun (fM130 100 (by first | decide | omega | (dsimp only; omega))) 50).trans q100_50_M1
        have q100_51_M13 : id (M13 100 51 = M 100 51) := (congrFun (fM130 100 (by first | decide | omega | (dsimp only; omega))) 51).trans q100_51_M1
        have q100_52_M13 : id (M13 100 52 = M 100 52) := (congrFun (fM130 100 (by first | decide | omega | (dsimp only; omega))) 52).trans q100_52_M1
        have q103_0_M13 : id (M13 103 0 = M 103 0) := (congrFun (fM130 103 (by first | decide | omega | (dsimp only; omega))) 0).trans q103_0_M1
        have q103_1_M13 : id (M13 103 1 = M 103 1) := (congrFun (fM130 103 (by first | decide | omega | (dsimp only; omega))) 1).trans q103_1_M1
        have q97_12_M13 : (M13 97 12 = M 97 12) := (congrFun (fM130 97 (by first | decide | omega | (dsimp only; omega))) 12).trans q97_12_M1
        have q97_17_M13 : (M13 97 17 = M 97 17) := (congrFun (fM130 97 (by first | decide | omega | (dsimp only; omega))) 17).trans q97_17_M1
        have q97_33_M13 : (M13 97 33 = M 97 33) := (congrFun (fM130 97 (by first | decide | omega | (dsimp only; omega))) 33).trans q97_33_M1
        have q97_10_M13 : (M13 97 10 = M 97 10) := (congrFun (fM130 97 (by first | decide | omega | (dsimp only; omega))) 10).trans q97_10_M1
        have q97_44_M13 : (M13 97 44 = M 97 44) := (congrFun (fM130 97 (by first | decide | omega | (dsimp only; omega))) 44).trans q97_44_M1
        have q97_1_M13 : (M13 97 1 = M 97 1) := (congrFun (fM130 97 (by first | decide | omega | (dsimp only; omega))) 1).trans q97_1_M1
        have xM13_97_0 : M13 97 0 = 0 := (congrFun (fM130 97 (by first | decide | omega | (dsimp only; omega))) 0).trans xM1_97_0
        have lv : LV (M13 115) (M13 99) am (M13 99 3) 0 := by rw [fM130 99 (by decide)]; exact pM13
        refine g_iload_n (pc' := 53) 1 dX10_mix_52 rfl rfl ?_
        refine g_istore (pc' := 55) (L' := [(4, vi am), (0, vr X 97), (1, vi am), (2, vi sg), (3, vi wt)]) dX10_mix_53 rfl (by decide) rfl ?_
        refine g_iload_n (pc' := 56) 2 dX10_mix_55 rfl rfl ?_
        refine g_iload_n (pc' := 57) 3 dX10_mix_56 rfl rfl ?_
        refine g_imul (pc' := 58) dX10_mix_57 rfl ?_
        have mpp := mulD (x := am) (v := sg) (C := 100) (by omega) (by omega) (by omega)
        obtain ⟨pp, hpp⟩ : ∃ z : Int, z = am * sg := ⟨_, rfl⟩
        rw [← hpp] at mpp ⊢
        refine g_istore (pc' := 60) (L' := [(5, vi pp), (4, vi am), (0, vr X 97), (1, vi am), (2, vi sg), (3, vi wt)]) dX10_mix_58 rfl (by decide) rfl ?_
        refine g_aload_n (pc' := 61) 2 dX10_mix_60 rfl rfl ?_
        refine g_getR (pc' := 64) dX10_mix_61 rfl f_X10_71 rfl rfl ?_
        refine g_iconst (pc' := 65) dX10_mix_64 rfl ?_
        refine g_iload (pc' := 67) 1 dX10_mix_65 rfl rfl ?_
        refine g_iload (pc' := 69) 0 dX10_mix_67 rfl rfl ?_
        refine g_callSip (pc' := 72) (As := [vi 0, vi am, vi pp]) (S := [vr X 115]) dX10_mix_69 rfl m_X10_385 w_X10_at (c_X10_at X M13 0 (by decide) am ham pp ⟨by omega, by omega⟩ (by omega) (by omega) (by omega)) rfl (by decide) (by decide) rfl (Nat.le_of_ble_eq_true rfl) (fun z15 q14 => ?_)
        refine g_iald (pc' := 73) dX10_mix_72 rfl rfl (by omega) (by omega) (fun v16 ev16 rv16 => ?_)
        have gv16 : v16 = M13 115 (ix (0) (am) (pp)) := by rw [ev16, q14]; rfl
        have bv16 := lv.b gv16 (by omega) (by omega) (by omega) (by omega) (by omega) (by omega)
        refine g_istore (pc' := 75) (L' := [(6, vi v16), (5, vi pp), (4, vi am), (0, vr X 97), (1, vi am), (2, vi sg), (3, vi wt)]) dX10_mix_73 rfl (by decide) rfl ?_
        refine g_iload (pc' := 77) 0 dX10_mix_75 rfl rfl ?_
        refine g_ldcw (pc' := 80) (v := 1000000) dX10_mix_77 rfl k_X10_388 ?_
        refine g_ic_ge (pc' := 83) (tgt := 87) rv16 (by decide) dX10_mix_80 rfl rfl (fun c17 => ?_) (fun c17 => ?_)
        · refine g_iload (pc' := 89) 0 dX10_mix_87 rfl rfl ?_
          refine g_ldcw (pc' := 92) (v := 1000000) dX10_mix_89 rfl k_X10_388 ?_
          refine g_ic_lt (pc' := 95) (tgt := 99) rv16 (by decide) dX10_mix_92 rfl rfl (fun c18 => ?_) (fun c18 => ?_)
          · refine g_iload (pc' := 101) 0 dX10_mix_99 rfl rfl ?_
            refine g_ireturn dX10_mix_101 ?_
            exact ⟨iM13, fM13, q99_0_M13, q99_1_M13, q99_2_M13, q99_3_M13, q100_0_M13, q100_1_M13, q100_2_M13, q100_3_M13, q100_49_M13, q100_50_M13, q100_51_M13, q100_52_M13, q103_0_M13, q103_1_M13, q97_12_M13, q97_17_M13, q97_33_M13, q97_10_M13, q97_44_M13, q97_1_M13, by first | assumption | decide | omega⟩
          · refine g_iconst (pc' := 96) dX10_mix_95 rfl ?_
            refine g_goto (tgt := 101) dX10_mix_96 rfl ?_
            refine g_ireturn dX10_mix_101 ?_
            exact ⟨iM13, fM13, q99_0_M13, q99_1_M13, q99_2_M13, q99_3_M13, q100_0_M13, q100_1_M13, q100_2_M13, q100_3_M13, q100_49_M13, q100_50_M13, q100_51_M13, q100_52_M13, q103_0_M13, q103_1_M13, q97_12_M13, q97_17_M13, q97_33_M13, q97_10_M13, q97_44_M13, q97_1_M13, by first | assumption | decide | omega⟩
        · refine g_iload_n (pc' := 84) 6 dX10_mix_83 rfl rfl ?_
          refine g_if_ne (pc' := 87) (tgt := 102) hwt dX10_mix_84 rfl rfl (fun c19 => ?_) (fun c19 => ?_)
          · refine g_iconst (pc' := 103) dX10_mix_102 rfl ?_
            refine g_istore (pc' := 105) (L' := [(7, vi 0), (6, vi v16), (5, vi pp), (4, vi am), (0, vr X 97), (1, vi am), (2, vi sg), (3, vi wt)]) dX10_mix_103 rfl (by decide) rfl ?_
            refine g_iconst (pc' := 106) dX10_mix_105 rfl ?_
            refine g_istore (pc' := 108) (L' := [(8, vi 0), (7, vi 0), (6, vi v16), (5, vi pp), (4, vi am), (0, vr X 97), (1, vi am), (2, vi sg), (3, vi wt)]) dX10_mix_106 rfl (by decide) rfl ?_
            refine g_sub [4, 3, 1, 0, 5, 8] rfl ?_
            exact l_X10_mix_108 X M hi am ham sg hsg wt hwt _ am pp 0 0 M13 iM13 fM13 q99_0_M13 q99_1_M13 q99_2_M13 q99_3_M13 q100_0_M13 q100_1_M13 q100_2_M13 q100_3_M13 q100_49_M13 q100_50_M13 q100_51_M13 q100_52_M13 q103_0_M13 q103_1_M13 q97_12_M13 q97_17_M13 q97_33_M13 q97_10_M13 q97_44_M13 q97_1_M13 lv (by omega) (by omega) (by omega) (by omega) (by omega) (by omega) (by rw [← gv16]; omega) (by first | assumption | decide | exact ⟨by omega, by omega⟩) rfl
          · refine g_iload (pc' := 89) 0 dX10_mix_87 rfl rfl ?_
            refine g_ldcw (pc' := 92) (v := 1000000) dX10_mix_89 rfl k_X10_388 ?_
            refine g_ic_lt (pc' := 95) (tgt := 99) rv16 (by decide) dX10_mix_92 rfl rfl (fun c20 => ?_) (fun c20 => ?_)
            · refine g_iload (pc' := 101) 0 dX10_mix_99 rfl rfl ?_
              refine g_ireturn dX10_mix_101 ?_
              exact ⟨iM13, fM13, q99_0_M13, q99_1_M13, q99_2_M13, q99_3_M13, q100_0_M13, q100_1_M13, q100_2_M13, q100_3_M13, q100_49_M13, q100_50_M13, q100_51_M13, q100_52_M13, q103_0_M13, q103_1_M13, q97_12_M13, q97_17_M13, q97_33_M13, q97_10_M13, q97_44_M13, q97_1_M13, by first | assumption | decide | omega⟩
            · refine g_iconst (pc' := 96) dX10_mix_95 rfl ?_
              refine g_goto (tgt := 101) dX10_mix_96 rfl ?_
              refine g_ireturn dX10_mix_101 ?_
              exact ⟨iM13, fM13, q99_0_M13, q99_1_M13, q99_2_M13, q99_3_M13, q100_0_M13, q100_1_M13, q100_2_M13, q100_3_M13, q100_49_M13, q100_50_M13, q100_51_M13, q100_52_M13, q103_0_M13, q103_1_M13, q97_12_M13, q97_17_M13, q97_33_M13, q97_10_M13, q97_44_M13, q97_1_M13, by first | assumption | decide | omega⟩
      · replace q9 := q9.resolve_left (fun h => absurd (c11.symm.trans h.1) (by decide))
        refine g_iconst (pc' := 46) dX10_mix_45 rfl ?_
        refine g_ireturn dX10_mix_46 ?_
        exact ⟨iM1, fM1, q99_0_M1, q99_1_M1, q99_2_M1, q99_3_M1, q100_0_M1, q100_1_M1, q100_2_M1, q100_3_M1, q100_49_M1, q100_50_M1, q100_51_M1, q100_52_M1, q103_0_M1, q103_1_M1, q97_12_M1, q97_17_M1, q97_33_M1, q97_10_M1, q97_44_M1, q97_1_M1, by first | assumption | decide | omega⟩
