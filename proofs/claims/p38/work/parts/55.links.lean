theorem f_X4_11 : fl RX4 11 4 0 := ⟨_, rfl, by decide, Or.inl (tbm (wl_in3 _ (List.mem_of_getElem? (i := 34) rfl)) rfl)⟩
theorem f_X9_31 : fl RX9 31 2 0 := ⟨_, rfl, by decide, Or.inr ⟨"WineSpoon", List.mem_of_getElem? (i := 42) rfl⟩⟩
theorem w_X7_init : Cond.code yX7_init cX7_init 1 none ∈ tb := tbm (wl_in0 _ (List.mem_of_getElem? (i := 36) rfl)) rfl
theorem w_X0_init : Cond.code yX0_init cX0_init 1 none ∈ tb := tbm (wl_in2 _ (List.mem_of_getElem? (i := 49) rfl)) rfl
theorem w_X8_init : Cond.code yX8_init cX8_init 1 none ∈ tb := tbm (wl_in2 _ (List.mem_of_getElem? (i := 8) rfl)) rfl
theorem w_X4_init : Cond.code yX4_init cX4_init 2 none ∈ tb := tbm (wl_in2 _ (List.mem_of_getElem? (i := 42) rfl)) rfl
theorem w_X6_init : Cond.code yX6_init cX6_init 1 none ∈ tb := tbm (wl_in0 _ (List.mem_of_getElem? (i := 30) rfl)) rfl
theorem w_X2_init : Cond.code yX2_init cX2_init 1 none ∈ tb := tbm (wl_in2 _ (List.mem_of_getElem? (i := 2) rfl)) rfl
theorem w_X3_init : Cond.code yX3_init cX3_init 1 none ∈ tb := tbm (wl_in4 _ (List.mem_of_getElem? (i := 23) rfl)) rfl
theorem w_X5_init : Cond.code yX5_init cX5_init 2 none ∈ tb := tbm (wl_in5 _ (List.mem_of_getElem? (i := 8) rfl)) rfl
theorem w_X1_init : Cond.code yX1_init cX1_init 1 none ∈ tb := tbm (wl_in5 _ (List.mem_of_getElem? (i := 45) rfl)) rfl
theorem ol_X0_1 : Cond.methodLink RX0 1 Lib.objectInit ∈ tb := tbm (wl_in3 _ (List.mem_of_getElem? (i := 0) rfl)) rfl
theorem oi_i : Cond.instanceMethod Lib.objectInit ∈ tb := tbm (wl_in0 _ (List.mem_of_getElem? (i := 24) rfl)) rfl
theorem oi_c : Cond.code Lib.objectInit ⟨#[0xb1]⟩ 1 none ∈ tb := tbm (wl_in0 _ (List.mem_of_getElem? (i := 25) rfl)) rfl
theorem ol_X7_3 : Cond.methodLink RX7 3 Lib.objectInit ∈ tb := tbm (wl_in0 _ (List.mem_of_getElem? (i := 37) rfl)) rfl
theorem ac_I : Cond.arrayClass .int ∈ tb := tbm (wl_in1 _ (List.mem_of_getElem? (i := 9) rfl)) rfl
theorem pf_X7_9 : pF RX7 9 7 0 (.array .int) := ⟨_, rfl, by decide, tbm (wl_in0 _ (List.mem_of_getElem? (i := 38) rfl)) rfl, rfl, rfl, by decide +kernel⟩
theorem pf_X7_15 : pF RX7 15 7 1 (.array .int) := ⟨_, rfl, by decide, tbm (wl_in0 _ (List.mem_of_getElem? (i := 39) rfl)) rfl, rfl, rfl, by decide +kernel⟩
theorem ac_L : Cond.arrayClass .long ∈ tb := tbm (wl_in1 _ (List.mem_of_getElem? (i := 10) rfl)) rfl
theorem ol_X8_3 : Cond.methodLink RX8 3 Lib.objectInit ∈ tb := tbm (wl_in2 _ (List.mem_of_getElem? (i := 9) rfl)) rfl
theorem pf_X8_9 : pF RX8 9 8 0 (.array .int) := ⟨_, rfl, by decide, tbm (wl_in2 _ (List.mem_of_getElem? (i := 10) rfl)) rfl, rfl, rfl, by decide +kernel⟩
theorem pf_X8_15 : pF RX8 15 8 2 (.array .int) := ⟨_, rfl, by decide, tbm (wl_in2 _ (List.mem_of_getElem? (i := 14) rfl)) rfl, rfl, rfl, by decide +kernel⟩
theorem pf_X8_18 : pF RX8 18 8 3 (.array .int) := ⟨_, rfl, by decide, tbm (wl_in2 _ (List.mem_of_getElem? (i := 15) rfl)) rfl, rfl, rfl, by decide +kernel⟩
theorem pf_X8_21 : pF RX8 21 8 4 (.array .int) := ⟨_, rfl, by decide, tbm (wl_in2 _ (List.mem_of_getElem? (i := 16) rfl)) rfl, rfl, rfl, by decide +kernel⟩
theorem pf_X8_24 : pF RX8 24 8 5 (.array .int) := ⟨_, rfl, by decide, tbm (wl_in2 _ (List.mem_of_getElem? (i := 17) rfl)) rfl, rfl, rfl, by decide +kernel⟩
theorem ol_X1_3 : Cond.methodLink RX1 3 Lib.objectInit ∈ tb := tbm (wl_in5 _ (List.mem_of_getElem? (i := 46) rfl)) rfl
theorem pf_X1_9 : pF RX1 9 1 0 (.array .int) := ⟨_, rfl, by decide, tbm (wl_in5 _ (List.mem_of_getElem? (i := 47) rfl)) rfl, rfl, rfl, by decide +kernel⟩
theorem pf_X1_15 : pF RX1 15 1 1 (.array .int) := ⟨_, rfl, by decide, tbm (wl_in5 _ (List.mem_of_getElem? (i := 48) rfl)) rfl, rfl, rfl, by decide +kernel⟩
theorem pf_X1_18 : pF RX1 18 1 3 (.array .int) := ⟨_, rfl, by decide, tbm (wl_in6 _ (List.mem_of_getElem? (i := 1) rfl)) rfl, rfl, rfl, by decide +kernel⟩
theorem pf_X1_21 : pF RX1 21 1 4 (.array .int) := ⟨_, rfl, by decide, tbm (wl_in6 _ (List.mem_of_getElem? (i := 2) rfl)) rfl, rfl, rfl, by decide +kernel⟩
theorem pf_X1_24 : pF RX1 24 1 5 (.array .int) := ⟨_, rfl, by decide, tbm (wl_in6 _ (List.mem_of_getElem? (i := 3) rfl)) rfl, rfl, rfl, by decide +kernel⟩
theorem pf_X1_27 : pF RX1 27 1 6 (.array .int) := ⟨_, rfl, by decide, tbm (wl_in6 _ (List.mem_of_getElem? (i := 4) rfl)) rfl, rfl, rfl, by decide +kernel⟩
theorem ol_X6_3 : Cond.methodLink RX6 3 Lib.objectInit ∈ tb := tbm (wl_in0 _ (List.mem_of_getElem? (i := 31) rfl)) rfl
theorem cl_X6_9 : Cond.classLink RX6 9 RX7 ∈ tb := tbm (wl_in0 _ (List.mem_of_getElem? (i := 32) rfl)) rfl
theorem in_X7 : Cond.instantiable RX7 6 ∈ tb := tbm (wl_in0 _ (List.mem_of_getElem? (i := 33) rfl)) rfl
theorem ii_X7 : Cond.initialized RX7 ∈ tb := tbm (wl_in0 _ (List.mem_of_getElem? (i := 3) rfl)) rfl
theorem df_X7 : ∀ j, j < 6 → defaultValue (tyX7 j) = vp_V [.null, .null, .null, .null, vl 0, vi 0] j := by decide +kernel
theorem li_X6_11 : lmI RX6 11 yX7_init := ⟨⟨by decide +kernel, by decide +kernel, by decide +kernel⟩, ii_X7, Or.inr ⟨"WineSpoon", List.mem_of_getElem? (i := 47) rfl⟩, rfl, tbm (wl_in0 _ (List.mem_of_getElem? (i := 35) rfl)) rfl⟩
theorem pf_X6_12 : pF RX6 12 6 0 (.object RX7) := ⟨_, rfl, by decide, tbm (wl_in1 _ (List.mem_of_getElem? (i := 11) rfl)) rfl, rfl, rfl, by decide +kernel⟩
theorem pf_X6_18 : pF RX6 18 6 1 (.array .int) := ⟨_, rfl, by decide, tbm (wl_in1 _ (List.mem_of_getElem? (i := 14) rfl)) rfl, rfl, rfl, by decide +kernel⟩
theorem pf_X6_22 : pF RX6 22 6 3 (.array .int) := ⟨_, rfl, by decide, tbm (wl_in1 _ (List.mem_of_getElem? (i := 20) rfl)) rfl, rfl, rfl, by decide +kernel⟩
theorem pf_X6_25 : pF RX6 25 6 5 (.array .int) := ⟨_, rfl, by decide, tbm (wl_in1 _ (List.mem_of_getElem? (i := 26) rfl)) rfl, rfl, rfl, by decide +kernel⟩
theorem ol_X4_3 : Cond.methodLink RX4 3 Lib.objectInit ∈ tb := tbm (wl_in2 _ (List.mem_of_getElem? (i := 43) rfl)) rfl
theorem cl_X4_9 : Cond.classLink RX4 9 RX0 ∈ tb := tbm (wl_in2 _ (List.mem_of_getElem? (i := 44) rfl)) rfl
theorem pf_X4_11 : pF RX4 11 4 0 (.array (.object RX0)) := ⟨_, rfl, by decide, tbm (wl_in3 _ (List.mem_of_getElem? (i := 34) rfl)) rfl, rfl, rfl, by decide +kernel⟩
theorem pf_X4_17 : pF RX4 17 4 2 (.array .int) := ⟨_, rfl, by decide, tbm (wl_in3 _ (List.mem_of_getElem? (i := 39) rfl)) rfl, rfl, rfl, by decide +kernel⟩
theorem pf_X4_21 : pF RX4 21 4 3 (.array .int) := ⟨_, rfl, by decide, tbm (wl_in3 _ (List.mem_of_getElem? (i := 41) rfl)) rfl, rfl, rfl, by decide +kernel⟩
theorem in_X0 : Cond.instantiable RX0 8 ∈ tb := tbm (wl_in2 _ (List.mem_of_getElem? (i := 46) rfl)) rfl
theorem ii_X0 : Cond.initialized RX0 ∈ tb := tbm (wl_in0 _ (List.mem_of_getElem? (i := 7) rfl)) rfl
theorem df_X0 : ∀ j, j < 8 → defaultValue (tyX0 j) = vp_V [vi 0, vi 0, vi 0, vi 0, vi 0, vi 0, vi 0, vi 0] j := by decide +kernel
theorem li_X4_24 : lmI RX4 24 yX0_init := ⟨⟨by decide +kernel, by decide +kernel, by decide +kernel⟩, ii_X0, Or.inr ⟨"WineSpoon", List.mem_of_getElem? (i := 50) rfl⟩, rfl, tbm (wl_in2 _ (List.mem_of_getElem? (i := 48) rfl)) rfl⟩
theorem ol_X3_3 : Cond.methodLink RX3 3 Lib.objectInit ∈ tb := tbm (wl_in4 _ (List.mem_of_getElem? (i := 24) rfl)) rfl
theorem cl_X3_9 : Cond.classLink RX3 9 RX7 ∈ tb := tbm (wl_in4 _ (List.mem_of_getElem? (i := 25) rfl)) rfl
theorem li_X3_11 : lmI RX3 11 yX7_init := ⟨⟨by decide +kernel, by decide +kernel, by decide +kernel⟩, ii_X7, Or.inr ⟨"WineSpoon", List.mem_of_getElem? (i := 52) rfl⟩, rfl, tbm (wl_in0 _ (List.mem_of_getElem? (i := 35) rfl)) rfl⟩
theorem pf_X3_12 : pF RX3 12 3 0 (.object RX7) := ⟨_, rfl, by decide, tbm (wl_in4 _ (List.mem_of_getElem? (i := 27) rfl)) rfl, rfl, rfl, by decide +kernel⟩
theorem pf_X3_18 : pF RX3 18 3 1 (.array .long) := ⟨_, rfl, by decide, tbm (wl_in4 _ (List.mem_of_getElem? (i := 28) rfl)) rfl, rfl, rfl, by decide +kernel⟩
theorem ol_X5_3 : Cond.methodLink RX5 3 Lib.objectInit ∈ tb := tbm (wl_in5 _ (List.mem_of_getElem? (i := 9) rfl)) rfl
theorem cl_X5_9 : Cond.classLink RX5 9 RX7 ∈ tb := tbm (wl_in5 _ (List.mem_of_getElem? (i := 10) rfl)) rfl
theorem pf_X5_11 : pF RX5 11 5 0 (.array (.object RX7)) := ⟨_, rfl, by decide, tbm (wl_in5 _ (List.mem_of_getElem? (i := 13) rfl)) rfl, rfl, rfl, by decide +kernel⟩
theorem pf_X5_17 : pF RX5 17 5 1 (.array .int) := ⟨_, rfl, by decide, tbm (wl_in5 _ (List.mem_of_getElem? (i := 14) rfl)) rfl, rfl, rfl, by decide +kernel⟩
theorem pf_X5_21 : pF RX5 21 5 2 (.array .int) := ⟨_, rfl, by decide, tbm (wl_in5 _ (List.mem_of_getElem? (i := 15) rfl)) rfl, rfl, rfl, by decide +kernel⟩
theorem li_X5_24 : lmI RX5 24 yX7_init := ⟨⟨by decide +kernel, by decide +kernel, by decide +kernel⟩, ii_X7, Or.inr ⟨"WineSpoon", List.mem_of_getElem? (i := 53) rfl⟩, rfl, tbm (wl_in0 _ (List.mem_of_getElem? (i := 35) rfl)) rfl⟩
theorem ol_X2_3 : Cond.methodLink RX2 3 Lib.objectInit ∈ tb := tbm (wl_in2 _ (List.mem_of_getElem? (i := 3) rfl)) rfl
theorem cl_X2_9 : Cond.classLink RX2 9 RX8 ∈ tb := tbm (wl_in2 _ (List.mem_of_getElem? (i := 4) rfl)) rfl
theorem in_X8 : Cond.instantiable RX8 8 ∈ tb := tbm (wl_in2 _ (List.mem_of_getElem? (i := 5) rfl)) rfl
theorem ii_X8 : Cond.initialized RX8 ∈ tb := tbm (wl_in0 _ (List.mem_of_getElem? (i := 5) rfl)) rfl
theorem df_X8 : ∀ j, j < 8 → defaultValue (tyX8 j) = vp_V [.null, vi 0, .null, .null, .null, .null, vi 0, vi 0] j := by decide +kernel
theorem li_X2_11 : lmI RX2 11 yX8_init := ⟨⟨by decide +kernel, by decide +kernel, by decide +kernel⟩, ii_X8, Or.inr ⟨"WineSpoon", List.mem_of_getElem? (i := 49) rfl⟩, rfl, tbm (wl_in2 _ (List.mem_of_getElem? (i := 7) rfl)) rfl⟩
theorem pf_X2_12 : pF RX2 12 2 0 (.object RX8) := ⟨_, rfl, by decide, tbm (wl_in4 _ (List.mem_of_getElem? (i := 7) rfl)) rfl, rfl, rfl, by decide +kernel⟩
theorem cl_X2_18 : Cond.classLink RX2 18 RX4 ∈ tb := tbm (wl_in2 _ (List.mem_of_getElem? (i := 38) rfl)) rfl
theorem in_X4 : Cond.instantiable RX4 5 ∈ tb := tbm (wl_in2 _ (List.mem_of_getElem? (i := 39) rfl)) rfl
theorem ii_X4 : Cond.initialized RX4 ∈ tb := tbm (wl_in0 _ (List.mem_of_getElem? (i := 6) rfl)) rfl
theorem df_X4 : ∀ j, j < 5 → defaultValue (tyX4 j) = vp_V [.null, vi 0, .null, .null, vi 0] j := by decide +kernel
theorem li_X2_20 : lmI RX2 20 yX4_init := ⟨⟨by decide +kernel, by decide +kernel, by decide +kernel⟩, ii_X4, Or.inl (tbm (wl_in2 _ (List.mem_of_getElem? (i := 40) rfl)) rfl), rfl, tbm (wl_in2 _ (List.mem_of_getElem? (i := 41) rfl)) rfl⟩
theorem pf_X2_21 : pF RX2 21 2 1 (.object RX4) := ⟨_, rfl, by decide, tbm (wl_in4 _ (List.mem_of_getElem? (i := 9) rfl)) rfl, rfl, rfl, by decide +kernel⟩
theorem ol_X9_3 : Cond.methodLink RX9 3 Lib.objectInit ∈ tb := tbm (wl_in0 _ (List.mem_of_getElem? (i := 23) rfl)) rfl
theorem cl_X9_9 : Cond.classLink RX9 9 RX6 ∈ tb := tbm (wl_in0 _ (List.mem_of_getElem? (i := 26) rfl)) rfl
theorem in_X6 : Cond.instantiable RX6 7 ∈ tb := tbm (wl_in0 _ (List.mem_of_getElem? (i := 27) rfl)) rfl
theorem ii_X6 : Cond.initialized RX6 ∈ tb := tbm (wl_in0 _ (List.mem_of_getElem? (i := 2) rfl)) rfl
theorem df_X6 : ∀ j, j < 7 → defaultValue (tyX6 j) = vp_V [.null, .null, vi 0, .null, vi 0, .null, vi 0] j := by decide +kernel
theorem li_X9_11 : lmI RX9 11 yX6_init := ⟨⟨by decide +kernel, by decide +kernel, by decide +kernel⟩, ii_X6, Or.inr ⟨"WineSpoon", List.mem_of_getElem? (i := 46) rfl⟩, rfl, tbm (wl_in0 _ (List.mem_of_getElem? (i := 29) rfl)) rfl⟩
theorem pf_X9_12 : pF RX9 12 9 0 (.object RX6) := ⟨_, rfl, by decide, tbm (wl_in6 _ (List.mem_of_getElem? (i := 22) rfl)) rfl, rfl, rfl, by decide +kernel⟩
theorem pf_X9_16 : pF RX9 16 9 1 (.array (.object RX6)) := ⟨_, rfl, by decide, tbm (wl_in6 _ (List.mem_of_getElem? (i := 23) rfl)) rfl, rfl, rfl, by decide +kernel⟩
theorem ac_Z : Cond.arrayClass .boolean ∈ tb := tbm (wl_in2 _ (List.mem_of_getElem? (i := 37) rfl)) rfl
theorem pf_X9_20 : pF RX9 20 9 2 (.array .boolean) := ⟨_, rfl, by decide, tbm (wl_in6 _ (List.mem_of_getElem? (i := 24) rfl)) rfl, rfl, rfl, by decide +kernel⟩
theorem cl_X9_24 : Cond.classLink RX9 24 RX2 ∈ tb := tbm (wl_in1 _ (List.mem_of_getElem? (i := 48) rfl)) rfl
theorem in_X2 : Cond.instantiable RX2 3 ∈ tb := tbm (wl_in1 _ (List.mem_of_getElem? (i := 49) rfl)) rfl
theorem ii_X2 : Cond.initialized RX2 ∈ tb := tbm (wl_in0 _ (List.mem_of_getElem? (i := 4) rfl)) rfl
theorem df_X2 : ∀ j, j < 3 → defaultValue (tyX2 j) = vp_V [.null, .null, vi 0] j := by decide +kernel
theorem li_X9_26 : lmI RX9 26 yX2_init := ⟨⟨by decide +kernel, by decide +kernel, by decide +kernel⟩, ii_X2, Or.inr ⟨"WineSpoon", List.mem_of_getElem? (i := 48) rfl⟩, rfl, tbm (wl_in2 _ (List.mem_of_getElem? (i := 1) rfl)) rfl⟩
theorem pf_X9_27 : pF RX9 27 9 3 (.object RX2) := ⟨_, rfl, by decide, tbm (wl_in6 _ (List.mem_of_getElem? (i := 25) rfl)) rfl, rfl, rfl, by decide +kernel⟩
theorem pf_X9_35 : pF RX9 35 9 4 (.object RX8) := ⟨_, rfl, by decide, tbm (wl_in6 _ (List.mem_of_getElem? (i := 26) rfl)) rfl, rfl, rfl, by decide +kernel⟩
theorem cl_X9_36 : Cond.classLink RX9 36 RX3 ∈ tb := tbm (wl_in4 _ (List.mem_of_getElem? (i := 19) rfl)) rfl
theorem in_X3 : Cond.instantiable RX3 5 ∈ tb := tbm (wl_in4 _ (List.mem_of_getElem? (i := 20) rfl)) rfl
theorem ii_X3 : Cond.initialized RX3 ∈ tb := tbm (wl_in0 _ (List.mem_of_getElem? (i := 8) rfl)) rfl
theorem df_X3 : ∀ j, j < 5 → defaultValue (tyX3 j) = vp_V [.null, .null, vi 0, vi 0, vi 0] j := by decide +kernel
theorem li_X9_38 : lmI RX9 38 yX3_init := ⟨⟨by decide +kernel, by decide +kernel, by decide +kernel⟩, ii_X3, Or.inr ⟨"WineSpoon", List.mem_of_getElem? (i := 51) rfl⟩, rfl, tbm (wl_in4 _ (List.mem_of_getElem? (i := 22) rfl)) rfl⟩
theorem pf_X9_39 : pF RX9 39 9 5 (.object RX3) := ⟨_, rfl, by decide, tbm (wl_in6 _ (List.mem_of_getElem? (i := 27) rfl)) rfl, rfl, rfl, by decide +kernel⟩
theorem cl_X9_43 : Cond.classLink RX9 43 RX5 ∈ tb := tbm (wl_in5 _ (List.mem_of_getElem? (i := 4) rfl)) rfl
theorem in_X5 : Cond.instantiable RX5 9 ∈ tb := tbm (wl_in5 _ (List.mem_of_getElem? (i := 5) rfl)) rfl
theorem ii_X5 : Cond.initialized RX5 ∈ tb := tbm (wl_in0 _ (List.mem_of_getElem? (i := 9) rfl)) rfl
theorem df_X5 : ∀ j, j < 9 → defaultValue (tyX5 j) = vp_V [.null, .null, .null, vi 0, vi 0, vi 0, vi 0, vi 0, vi 0] j := by decide +kernel
theorem li_X9_45 : lmI RX9 45 yX5_init := ⟨⟨by decide +kernel, by decide +kernel, by decide +kernel⟩, ii_X5, Or.inl (tbm (wl_in5 _ (List.mem_of_getElem? (i := 6) rfl)) rfl), rfl, tbm (wl_in5 _ (List.mem_of_getElem? (i := 7) rfl)) rfl⟩
theorem pf_X9_46 : pF RX9 46 9 6 (.object RX5) := ⟨_, rfl, by decide, tbm (wl_in6 _ (List.mem_of_getElem? (i := 28) rfl)) rfl, rfl, rfl, by decide +kernel⟩
theorem cl_X9_50 : Cond.classLink RX9 50 RX1 ∈ tb := tbm (wl_in5 _ (List.mem_of_getElem? (i := 41) rfl)) rfl
theorem in_X1 : Cond.instantiable RX1 7 ∈ tb := tbm (wl_in5 _ (List.mem_of_getElem? (i := 42) rfl)) rfl
theorem ii_X1 : Cond.initialized RX1 ∈ tb := tbm (wl_in0 _ (List.mem_of_getElem? (i := 10) rfl)) rfl
theorem df_X1 : ∀ j, j < 7 → defaultValue (tyX1 j) = vp_V [.null, .null, vi 0, .null, .null, .null, .null] j := by decide +kernel
theorem li_X9_52 : lmI RX9 52 yX1_init := ⟨⟨by decide +kernel, by decide +kernel, by decide +kernel⟩, ii_X1, Or.inr ⟨"WineSpoon", List.mem_of_getElem? (i := 54) rfl⟩, rfl, tbm (wl_in5 _ (List.mem_of_getElem? (i := 44) rfl)) rfl⟩
theorem pf_X9_53 : pF RX9 53 9 7 (.object RX1) := ⟨_, rfl, by decide, tbm (wl_in6 _ (List.mem_of_getElem? (i := 29) rfl)) rfl, rfl, rfl, by decide +kernel⟩
theorem cl_X9_57 : Cond.classLink RX9 57 RX7 ∈ tb := tbm (wl_in6 _ (List.mem_of_getElem? (i := 20) rfl)) rfl
theorem li_X9_59 : lmI RX9 59 yX7_init := ⟨⟨by decide +kernel, by decide +kernel, by decide +kernel⟩, ii_X7, Or.inr ⟨"WineSpoon", List.mem_of_getElem? (i := 55) rfl⟩, rfl, tbm (wl_in0 _ (List.mem_of_getElem? (i := 35) rfl)) rfl⟩
theorem pf_X9_60 : pF RX9 60 9 8 (.object RX7) := ⟨_, rfl, by decide, tbm (wl_in6 _ (List.mem_of_getElem? (i := 30) rfl)) rfl, rfl, rfl, by decide +kernel⟩
theorem pf_X9_64 : pF RX9 64 9 9 (.array .int) := ⟨_, rfl, by decide, tbm (wl_in6 _ (List.mem_of_getElem? (i := 31) rfl)) rfl, rfl, rfl, by decide +kernel⟩
theorem ol_X10_1 : Cond.methodLink RX10 1 Lib.objectInit ∈ tb := tbm (wl_in21 _ (List.mem_of_getElem? (i := 2) rfl)) rfl
theorem pf_X10_7 : pF RX10 7 10 2 (.array .int) := ⟨_, rfl, by decide, tbm (wl_in21 _ (List.mem_of_getElem? (i := 6) rfl)) rfl, rfl, rfl, by decide +kernel⟩
theorem pf_X10_13 : pF RX10 13 10 3 (.array .int) := ⟨_, rfl, by decide, tbm (wl_in21 _ (List.mem_of_getElem? (i := 7) rfl)) rfl, rfl, rfl, by decide +kernel⟩
theorem pf_X10_16 : pF RX10 16 10 4 (.array .int) := ⟨_, rfl, by decide, tbm (wl_in21 _ (List.mem_of_getElem? (i := 8) rfl)) rfl, rfl, rfl, by decide +kernel⟩
theorem pf_X10_19 : pF RX10 19 10 5 (.array .long) := ⟨_, rfl, by decide, tbm (wl_in21 _ (List.mem_of_getElem? (i := 9) rfl)) rfl, rfl, rfl, by decide +kernel⟩
theorem pf_X10_23 : pF RX10 23 10 6 (.array .long) := ⟨_, rfl, by decide, tbm (wl_in21 _ (List.mem_of_getElem? (i := 10) rfl)) rfl, rfl, rfl, by decide +kernel⟩
theorem pf_X10_26 : pF RX10 26 10 7 (.array .boolean) := ⟨_, rfl, by decide, tbm (wl_in21 _ (List.mem_of_getElem? (i := 11) rfl)) rfl, rfl, rfl, by decide +kernel⟩
theorem pf_X10_30 : pF RX10 30 10 8 (.array .long) := ⟨_, rfl, by decide, tbm (wl_in21 _ (List.mem_of_getElem? (i := 12) rfl)) rfl, rfl, rfl, by decide +kernel⟩
theorem pf_X10_33 : pF RX10 33 10 9 (.array .long) := ⟨_, rfl, by decide, tbm (wl_in21 _ (List.mem_of_getElem? (i := 13) rfl)) rfl, rfl, rfl, by decide +kernel⟩
theorem pf_X10_36 : pF RX10 36 10 11 (.array .int) := ⟨_, rfl, by decide, tbm (wl_in21 _ (List.mem_of_getElem? (i := 15) rfl)) rfl, rfl, rfl, by decide +kernel⟩
theorem pf_X10_43 : pF RX10 43 10 20 (.array .int) := ⟨_, rfl, by decide, tbm (wl_in21 _ (List.mem_of_getElem? (i := 24) rfl)) rfl, rfl, rfl, by decide +kernel⟩
theorem pf_X10_46 : pF RX10 46 10 22 (.array .int) := ⟨_, rfl, by decide, tbm (wl_in21 _ (List.mem_of_getElem? (i := 26) rfl)) rfl, rfl, rfl, by decide +kernel⟩
theorem pf_X10_49 : pF RX10 49 10 23 (.array .int) := ⟨_, rfl, by decide, tbm (wl_in21 _ (List.mem_of_getElem? (i := 27) rfl)) rfl, rfl, rfl, by decide +kernel⟩
theorem pf_X10_52 : pF RX10 52 10 25 (.array .int) := ⟨_, rfl, by decide, tbm (wl_in21 _ (List.mem_of_getElem? (i := 29) rfl)) rfl, rfl, rfl, by decide +kernel⟩
theorem pf_X10_55 : pF RX10 55 10 26 (.array .int) := ⟨_, rfl, by decide, tbm (wl_in21 _ (List.mem_of_getElem? (i := 30) rfl)) rfl, rfl, rfl, by decide +kernel⟩
theorem pf_X10_58 : pF RX10 58 10 29 (.array .long) := ⟨_, rfl, by decide, tbm (wl_in21 _ (List.mem_of_getElem? (i := 33) rfl)) rfl, rfl, rfl, by decide +kernel⟩
theorem pf_X10_64 : pF RX10 64 10 34 (.array .int) := ⟨_, rfl, by decide, tbm (wl_in21 _ (List.mem_of_getElem? (i := 38) rfl)) rfl, rfl, rfl, by decide +kernel⟩
theorem pf_X10_67 : pF RX10 67 10 35 (.array .int) := ⟨_, rfl, by decide, tbm (wl_in21 _ (List.mem_of_getElem? (i := 39) rfl)) rfl, rfl, rfl, by decide +kernel⟩
theorem kk_X10_70 : Cond.constant RX10 70 (Int32.ofInt 294147) ∈ tb := tbm (wl_in21 _ (List.mem_of_getElem? (i := 3) rfl)) rfl
theorem pf_X10_71 : pF RX10 71 10 41 (.array .int) := ⟨_, rfl, by decide, tbm (wl_in21 _ (List.mem_of_getElem? (i := 45) rfl)) rfl, rfl, rfl, by decide +kernel⟩
theorem pf_X10_74 : pF RX10 74 10 43 (.array .int) := ⟨_, rfl, by decide, tbm (wl_in21 _ (List.mem_of_getElem? (i := 47) rfl)) rfl, rfl, rfl, by decide +kernel⟩
