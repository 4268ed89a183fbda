theorem dX10_init_0 : decode cX10_init 0 = .ok (.aload_n 0, 1) := by decide +kernel
theorem dX10_init_1 : decode cX10_init 1 = .ok (.invokespecial 1, 3) := by decide +kernel
theorem dX10_init_4 : decode cX10_init 4 = .ok (.aload_n 0, 1) := by decide +kernel
theorem dX10_init_5 : decode cX10_init 5 = .ok (.bipush 7, 2) := by decide +kernel
theorem dX10_init_7 : decode cX10_init 7 = .ok (.newarray .int, 2) := by decide +kernel
theorem dX10_init_9 : decode cX10_init 9 = .ok (.putfield 7, 3) := by decide +kernel
theorem dX10_init_12 : decode cX10_init 12 = .ok (.aload_n 0, 1) := by decide +kernel
theorem dX10_init_13 : decode cX10_init 13 = .ok (.bipush 49, 2) := by decide +kernel
theorem dX10_init_15 : decode cX10_init 15 = .ok (.newarray .int, 2) := by decide +kernel
theorem dX10_init_17 : decode cX10_init 17 = .ok (.putfield 13, 3) := by decide +kernel
theorem dX10_init_20 : decode cX10_init 20 = .ok (.aload_n 0, 1) := by decide +kernel
theorem dX10_init_21 : decode cX10_init 21 = .ok (.bipush 98, 2) := by decide +kernel
theorem dX10_init_23 : decode cX10_init 23 = .ok (.newarray .int, 2) := by decide +kernel
theorem dX10_init_25 : decode cX10_init 25 = .ok (.putfield 16, 3) := by decide +kernel
theorem dX10_init_28 : decode cX10_init 28 = .ok (.aload_n 0, 1) := by decide +kernel
theorem dX10_init_29 : decode cX10_init 29 = .ok (.bipush 25, 2) := by decide +kernel
theorem dX10_init_31 : decode cX10_init 31 = .ok (.newarray .long, 2) := by decide +kernel
theorem dX10_init_33 : decode cX10_init 33 = .ok (.putfield 19, 3) := by decide +kernel
theorem dX10_init_36 : decode cX10_init 36 = .ok (.aload_n 0, 1) := by decide +kernel
theorem dX10_init_37 : decode cX10_init 37 = .ok (.bipush 50, 2) := by decide +kernel
theorem dX10_init_39 : decode cX10_init 39 = .ok (.newarray .long, 2) := by decide +kernel
theorem dX10_init_41 : decode cX10_init 41 = .ok (.putfield 23, 3) := by decide +kernel
theorem dX10_init_44 : decode cX10_init 44 = .ok (.aload_n 0, 1) := by decide +kernel
theorem dX10_init_45 : decode cX10_init 45 = .ok (.iconst 2, 1) := by decide +kernel
theorem dX10_init_46 : decode cX10_init 46 = .ok (.newarray .boolean, 2) := by decide +kernel
theorem dX10_init_48 : decode cX10_init 48 = .ok (.putfield 26, 3) := by decide +kernel
theorem dX10_init_51 : decode cX10_init 51 = .ok (.aload_n 0, 1) := by decide +kernel
theorem dX10_init_52 : decode cX10_init 52 = .ok (.sipush 300, 3) := by decide +kernel
theorem dX10_init_55 : decode cX10_init 55 = .ok (.newarray .long, 2) := by decide +kernel
theorem dX10_init_57 : decode cX10_init 57 = .ok (.putfield 30, 3) := by decide +kernel
theorem dX10_init_60 : decode cX10_init 60 = .ok (.aload_n 0, 1) := by decide +kernel
theorem dX10_init_61 : decode cX10_init 61 = .ok (.iconst 4, 1) := by decide +kernel
theorem dX10_init_62 : decode cX10_init 62 = .ok (.newarray .long, 2) := by decide +kernel
theorem dX10_init_64 : decode cX10_init 64 = .ok (.putfield 33, 3) := by decide +kernel
theorem dX10_init_67 : decode cX10_init 67 = .ok (.aload_n 0, 1) := by decide +kernel
theorem dX10_init_68 : decode cX10_init 68 = .ok (.sipush 400, 3) := by decide +kernel
theorem dX10_init_71 : decode cX10_init 71 = .ok (.newarray .int, 2) := by decide +kernel
theorem dX10_init_73 : decode cX10_init 73 = .ok (.putfield 36, 3) := by decide +kernel
theorem dX10_init_76 : decode cX10_init 76 = .ok (.aload_n 0, 1) := by decide +kernel
theorem dX10_init_77 : decode cX10_init 77 = .ok (.iconst (-1), 1) := by decide +kernel
theorem dX10_init_78 : decode cX10_init 78 = .ok (.putfield 39, 3) := by decide +kernel
theorem dX10_init_81 : decode cX10_init 81 = .ok (.aload_n 0, 1) := by decide +kernel
theorem dX10_init_82 : decode cX10_init 82 = .ok (.bipush 96, 2) := by decide +kernel
theorem dX10_init_84 : decode cX10_init 84 = .ok (.newarray .int, 2) := by decide +kernel
theorem dX10_init_86 : decode cX10_init 86 = .ok (.putfield 43, 3) := by decide +kernel
theorem dX10_init_89 : decode cX10_init 89 = .ok (.aload_n 0, 1) := by decide +kernel
theorem dX10_init_90 : decode cX10_init 90 = .ok (.sipush 400, 3) := by decide +kernel
theorem dX10_init_93 : decode cX10_init 93 = .ok (.newarray .int, 2) := by decide +kernel
theorem dX10_init_95 : decode cX10_init 95 = .ok (.putfield 46, 3) := by decide +kernel
theorem dX10_init_98 : decode cX10_init 98 = .ok (.aload_n 0, 1) := by decide +kernel
theorem dX10_init_99 : decode cX10_init 99 = .ok (.sipush 400, 3) := by decide +kernel
theorem dX10_init_102 : decode cX10_init 102 = .ok (.newarray .int, 2) := by decide +kernel
theorem dX10_init_104 : decode cX10_init 104 = .ok (.putfield 49, 3) := by decide +kernel
theorem dX10_init_107 : decode cX10_init 107 = .ok (.aload_n 0, 1) := by decide +kernel
theorem dX10_init_108 : decode cX10_init 108 = .ok (.sipush 400, 3) := by decide +kernel
theorem dX10_init_111 : decode cX10_init 111 = .ok (.newarray .int, 2) := by decide +kernel
theorem dX10_init_113 : decode cX10_init 113 = .ok (.putfield 52, 3) := by decide +kernel
theorem dX10_init_116 : decode cX10_init 116 = .ok (.aload_n 0, 1) := by decide +kernel
theorem dX10_init_117 : decode cX10_init 117 = .ok (.sipush 400, 3) := by decide +kernel
theorem dX10_init_120 : decode cX10_init 120 = .ok (.newarray .int, 2) := by decide +kernel
theorem dX10_init_122 : decode cX10_init 122 = .ok (.putfield 55, 3) := by decide +kernel
theorem dX10_init_125 : decode cX10_init 125 = .ok (.aload_n 0, 1) := by decide +kernel
theorem dX10_init_126 : decode cX10_init 126 = .ok (.sipush 400, 3) := by decide +kernel
theorem dX10_init_129 : decode cX10_init 129 = .ok (.newarray .long, 2) := by decide +kernel
theorem dX10_init_131 : decode cX10_init 131 = .ok (.putfield 58, 3) := by decide +kernel
theorem dX10_init_134 : decode cX10_init 134 = .ok (.aload_n 0, 1) := by decide +kernel
theorem dX10_init_135 : decode cX10_init 135 = .ok (.iconst (-1), 1) := by decide +kernel
theorem dX10_init_136 : decode cX10_init 136 = .ok (.putfield 61, 3) := by decide +kernel
theorem dX10_init_139 : decode cX10_init 139 = .ok (.aload_n 0, 1) := by decide +kernel
theorem dX10_init_140 : decode cX10_init 140 = .ok (.iconst 3, 1) := by decide +kernel
theorem dX10_init_141 : decode cX10_init 141 = .ok (.newarray .int, 2) := by decide +kernel
theorem dX10_init_143 : decode cX10_init 143 = .ok (.putfield 64, 3) := by decide +kernel
theorem dX10_init_146 : decode cX10_init 146 = .ok (.aload_n 0, 1) := by decide +kernel
theorem dX10_init_147 : decode cX10_init 147 = .ok (.iconst 3, 1) := by decide +kernel
theorem dX10_init_148 : decode cX10_init 148 = .ok (.newarray .int, 2) := by decide +kernel
theorem dX10_init_150 : decode cX10_init 150 = .ok (.putfield 67, 3) := by decide +kernel
theorem dX10_init_153 : decode cX10_init 153 = .ok (.aload_n 0, 1) := by decide +kernel
theorem dX10_init_154 : decode cX10_init 154 = .ok (.ldc 70, 2) := by decide +kernel
theorem dX10_init_156 : decode cX10_init 156 = .ok (.newarray .int, 2) := by decide +kernel
theorem dX10_init_158 : decode cX10_init 158 = .ok (.putfield 71, 3) := by decide +kernel
theorem dX10_init_161 : decode cX10_init 161 = .ok (.aload_n 0, 1) := by decide +kernel
theorem dX10_init_162 : decode cX10_init 162 = .ok (.bipush 24, 2) := by decide +kernel
theorem dX10_init_164 : decode cX10_init 164 = .ok (.newarray .int, 2) := by decide +kernel
theorem dX10_init_166 : decode cX10_init 166 = .ok (.putfield 74, 3) := by decide +kernel
theorem dX10_init_169 : decode cX10_init 169 = .ok (.aload_n 0, 1) := by decide +kernel
theorem dX10_init_170 : decode cX10_init 170 = .ok (.getfield 19, 3) := by decide +kernel
theorem dX10_init_173 : decode cX10_init 173 = .ok (.bipush 24, 2) := by decide +kernel
theorem dX10_init_175 : decode cX10_init 175 = .ok (.lconst 1, 1) := by decide +kernel
theorem dX10_init_176 : decode cX10_init 176 = .ok (.lastore, 1) := by decide +kernel
theorem dX10_init_177 : decode cX10_init 177 = .ok (.return_, 1) := by decide +kernel
theorem dX10_in_0 : decode cX10_in 0 = .ok (.lload_n 0, 1) := by decide +kernel
theorem dX10_in_1 : decode cX10_in 1 = .ok (.lload_n 2, 1) := by decide +kernel
theorem dX10_in_2 : decode cX10_in 2 = .ok (.lcmp, 1) := by decide +kernel
theorem dX10_in_3 : decode cX10_in 3 = .ok (.ifCond .lt 14, 3) := by decide +kernel
theorem dX10_in_6 : decode cX10_in 6 = .ok (.lload_n 0, 1) := by decide +kernel
theorem dX10_in_7 : decode cX10_in 7 = .ok (.lload 4, 2) := by decide +kernel
theorem dX10_in_9 : decode cX10_in 9 = .ok (.lcmp, 1) := by decide +kernel
theorem dX10_in_10 : decode cX10_in 10 = .ok (.ifCond .gt 7, 3) := by decide +kernel
theorem dX10_in_13 : decode cX10_in 13 = .ok (.iconst 1, 1) := by decide +kernel
theorem dX10_in_14 : decode cX10_in 14 = .ok (.goto 4, 3) := by decide +kernel
theorem dX10_in_17 : decode cX10_in 17 = .ok (.iconst 0, 1) := by decide +kernel
theorem dX10_in_18 : decode cX10_in 18 = .ok (.ireturn, 1) := by decide +kernel
theorem dX10_tell_0 : decode cX10_tell 0 = .ok (.aload_n 0, 1) := by decide +kernel
theorem dX10_tell_1 : decode cX10_tell 1 = .ok (.iload_n 1, 1) := by decide +kernel
theorem dX10_tell_2 : decode cX10_tell 2 = .ok (.ifCond .ge 7, 3) := by decide +kernel
theorem dX10_tell_5 : decode cX10_tell 5 = .ok (.iload_n 1, 1) := by decide +kernel
theorem dX10_tell_6 : decode cX10_tell 6 = .ok (.goto 4, 3) := by decide +kernel
theorem dX10_tell_9 : decode cX10_tell 9 = .ok (.iconst 0, 1) := by decide +kernel
theorem dX10_tell_10 : decode cX10_tell 10 = .ok (.putfield 80, 3) := by decide +kernel
theorem dX10_tell_13 : decode cX10_tell 13 = .ok (.iload_n 1, 1) := by decide +kernel
theorem dX10_tell_14 : decode cX10_tell 14 = .ok (.ifCond .ge 14, 3) := by decide +kernel
theorem dX10_tell_17 : decode cX10_tell 17 = .ok (.aload_n 0, 1) := by decide +kernel
theorem dX10_tell_18 : decode cX10_tell 18 = .ok (.getfield 7, 3) := by decide +kernel
theorem dX10_tell_21 : decode cX10_tell 21 = .ok (.iload_n 1, 1) := by decide +kernel
theorem dX10_tell_22 : decode cX10_tell 22 = .ok (.ineg, 1) := by decide +kernel
theorem dX10_tell_23 : decode cX10_tell 23 = .ok (.dup2, 1) := by decide +kernel
theorem dX10_tell_24 : decode cX10_tell 24 = .ok (.iaload, 1) := by decide +kernel
theorem dX10_tell_25 : decode cX10_tell 25 = .ok (.iconst 1, 1) := by decide +kernel
theorem dX10_tell_26 : decode cX10_tell 26 = .ok (.iadd, 1) := by decide +kernel
theorem dX10_tell_27 : decode cX10_tell 27 = .ok (.iastore, 1) := by decide +kernel
theorem dX10_tell_28 : decode cX10_tell 28 = .ok (.iload_n 1, 1) := by decide +kernel
theorem dX10_tell_29 : decode cX10_tell 29 = .ok (.ireturn, 1) := by decide +kernel
theorem dX10_image_0 : decode cX10_image 0 = .ok (.aload_n 0, 1) := by decide +kernel
theorem dX10_image_1 : decode cX10_image 1 = .ok (.iconst 0, 1) := by decide +kernel
theorem dX10_image_2 : decode cX10_image 2 = .ok (.putfield 77, 3) := by decide +kernel
theorem dX10_image_5 : decode cX10_image 5 = .ok (.iload_n 1, 1) := by decide +kernel
theorem dX10_image_6 : decode cX10_image 6 = .ok (.i2l, 1) := by decide +kernel
theorem dX10_image_7 : decode cX10_image 7 = .ok (.lconst 0, 1) := by decide +kernel
theorem dX10_image_8 : decode cX10_image 8 = .ok (.lconst 1, 1) := by decide +kernel
theorem dX10_image_9 : decode cX10_image 9 = .ok (.invokestatic 83, 3) := by decide +kernel
theorem dX10_image_12 : decode cX10_image 12 = .ok (.ifCond .ne 9, 3) := by decide +kernel
theorem dX10_image_15 : decode cX10_image 15 = .ok (.aload_n 0, 1) := by decide +kernel
theorem dX10_image_16 : decode cX10_image 16 = .ok (.iconst (-1), 1) := by decide +kernel
theorem dX10_image_17 : decode cX10_image 17 = .ok (.invokevirtual 87, 3) := by decide +kernel
theorem dX10_image_20 : decode cX10_image 20 = .ok (.ireturn, 1) := by decide +kernel
theorem dX10_image_21 : decode cX10_image 21 = .ok (.iconst 0, 1) := by decide +kernel
theorem dX10_image_22 : decode cX10_image 22 = .ok (.istore_n 2, 1) := by decide +kernel
theorem dX10_image_23 : decode cX10_image 23 = .ok (.iload_n 2, 1) := by decide +kernel
theorem dX10_image_24 : decode cX10_image 24 = .ok (.bipush 49, 2) := by decide +kernel
theorem dX10_image_26 : decode cX10_image 26 = .ok (.if_icmp .ge 26, 3) := by decide +kernel
theorem dX10_image_29 : decode cX10_image 29 = .ok (.aload_n 0, 1) := by decide +kernel
theorem dX10_image_30 : decode cX10_image 30 = .ok (.getfield 16, 3) := by decide +kernel
theorem dX10_image_33 : decode cX10_image 33 = .ok (.bipush 49, 2) := by decide +kernel
theorem dX10_image_35 : decode cX10_image 35 = .ok (.iload_n 1, 1) := by decide +kernel
theorem dX10_image_36 : decode cX10_image 36 = .ok (.imul, 1) := by decide +kernel
theorem dX10_image_37 : decode cX10_image 37 = .ok (.iload_n 2, 1) := by decide +kernel
theorem dX10_image_38 : decode cX10_image 38 = .ok (.iadd, 1) := by decide +kernel
theorem dX10_image_39 : decode cX10_image 39 = .ok (.aload_n 0, 1) := by decide +kernel
theorem dX10_image_40 : decode cX10_image 40 = .ok (.getfield 13, 3) := by decide +kernel
theorem dX10_image_43 : decode cX10_image 43 = .ok (.iload_n 2, 1) := by decide +kernel
theorem dX10_image_44 : decode cX10_image 44 = .ok (.iaload, 1) := by decide +kernel
theorem dX10_image_45 : decode cX10_image 45 = .ok (.iastore, 1) := by decide +kernel
theorem dX10_image_46 : decode cX10_image 46 = .ok (.iinc 2 1, 3) := by decide +kernel
theorem dX10_image_49 : decode cX10_image 49 = .ok (.goto (-26), 3) := by decide +kernel
theorem dX10_image_52 : decode cX10_image 52 = .ok (.iconst 0, 1) := by decide +kernel
theorem dX10_image_53 : decode cX10_image 53 = .ok (.istore_n 2, 1) := by decide +kernel
theorem dX10_image_54 : decode cX10_image 54 = .ok (.iload_n 2, 1) := by decide +kernel
theorem dX10_image_55 : decode cX10_image 55 = .ok (.bipush 25, 2) := by decide +kernel
theorem dX10_image_57 : decode cX10_image 57 = .ok (.if_icmp .ge 26, 3) := by decide +kernel
theorem dX10_image_60 : decode cX10_image 60 = .ok (.aload_n 0, 1) := by decide +kernel
theorem dX10_image_61 : decode cX10_image 61 = .ok (.getfield 23, 3) := by decide +kernel
theorem dX10_image_64 : decode cX10_image 64 = .ok (.bipush 25, 2) := by decide +kernel
theorem dX10_image_66 : decode cX10_image 66 = .ok (.iload_n 1, 1) := by decide +kernel
theorem dX10_image_67 : decode cX10_image 67 = .ok (.imul, 1) := by decide +kernel
theorem dX10_image_68 : decode cX10_image 68 = .ok (.iload_n 2, 1) := by decide +kernel
theorem dX10_image_69 : decode cX10_image 69 = .ok (.iadd, 1) := by decide +kernel
theorem dX10_image_70 : decode cX10_image 70 = .ok (.aload_n 0, 1) := by decide +kernel
theorem dX10_image_71 : decode cX10_image 71 = .ok (.getfield 19, 3) := by decide +kernel
theorem dX10_image_74 : decode cX10_image 74 = .ok (.iload_n 2, 1) := by decide +kernel
theorem dX10_image_75 : decode cX10_image 75 = .ok (.laload, 1) := by decide +kernel
theorem dX10_image_76 : decode cX10_image 76 = .ok (.lastore, 1) := by decide +kernel
theorem dX10_image_77 : decode cX10_image 77 = .ok (.iinc 2 1, 3) := by decide +kernel
theorem dX10_image_80 : decode cX10_image 80 = .ok (.goto (-26), 3) := by decide +kernel
theorem dX10_image_83 : decode cX10_image 83 = .ok (.aload_n 0, 1) := by decide +kernel
theorem dX10_image_84 : decode cX10_image 84 = .ok (.getfield 26, 3) := by decide +kernel
theorem dX10_image_87 : decode cX10_image 87 = .ok (.iload_n 1, 1) := by decide +kernel
theorem dX10_image_88 : decode cX10_image 88 = .ok (.iconst 1, 1) := by decide +kernel
theorem dX10_image_89 : decode cX10_image 89 = .ok (.bastore, 1) := by decide +kernel
theorem dX10_image_90 : decode cX10_image 90 = .ok (.aload_n 0, 1) := by decide +kernel
theorem dX10_image_91 : decode cX10_image 91 = .ok (.iconst 0, 1) := by decide +kernel
theorem dX10_image_92 : decode cX10_image 92 = .ok (.invokevirtual 87, 3) := by decide +kernel
theorem dX10_image_95 : decode cX10_image 95 = .ok (.ireturn, 1) := by decide +kernel
theorem dX10_back_0 : decode cX10_back 0 = .ok (.aload_n 0, 1) := by decide +kernel
theorem dX10_back_1 : decode cX10_back 1 = .ok (.iconst 0, 1) := by decide +kernel
theorem dX10_back_2 : decode cX10_back 2 = .ok (.putfield 77, 3) := by decide +kernel
theorem dX10_back_5 : decode cX10_back 5 = .ok (.iload_n 1, 1) := by decide +kernel
theorem dX10_back_6 : decode cX10_back 6 = .ok (.i2l, 1) := by decide +kernel
theorem dX10_back_7 : decode cX10_back 7 = .ok (.lconst 0, 1) := by decide +kernel
theorem dX10_back_8 : decode cX10_back 8 = .ok (.lconst 1, 1) := by decide +kernel
theorem dX10_back_9 : decode cX10_back 9 = .ok (.invokestatic 83, 3) := by decide +kernel
theorem dX10_back_12 : decode cX10_back 12 = .ok (.ifCond .ne 9, 3) := by decide +kernel
theorem dX10_back_15 : decode cX10_back 15 = .ok (.aload_n 0, 1) := by decide +kernel
theorem dX10_back_16 : decode cX10_back 16 = .ok (.iconst (-1), 1) := by decide +kernel
theorem dX10_back_17 : decode cX10_back 17 = .ok (.invokevirtual 87, 3) := by decide +kernel
theorem dX10_back_20 : decode cX10_back 20 = .ok (.ireturn, 1) := by decide +kernel
theorem dX10_back_21 : decode cX10_back 21 = .ok (.aload_n 0, 1) := by decide +kernel
theorem dX10_back_22 : decode cX10_back 22 = .ok (.getfield 26, 3) := by decide +kernel
theorem dX10_back_25 : decode cX10_back 25 = .ok (.iload_n 1, 1) := by decide +kernel
theorem dX10_back_26 : decode cX10_back 26 = .ok (.baload, 1) := by decide +kernel
theorem dX10_back_27 : decode cX10_back 27 = .ok (.ifCond .ne 10, 3) := by decide +kernel
theorem dX10_back_30 : decode cX10_back 30 = .ok (.aload_n 0, 1) := by decide +kernel
theorem dX10_back_31 : decode cX10_back 31 = .ok (.bipush (-2), 2) := by decide +kernel
theorem dX10_back_33 : decode cX10_back 33 = .ok (.invokevirtual 87, 3) := by decide +kernel
theorem dX10_back_36 : decode cX10_back 36 = .ok (.ireturn, 1) := by decide +kernel
theorem dX10_back_37 : decode cX10_back 37 = .ok (.iconst 0, 1) := by decide +kernel
theorem dX10_back_38 : decode cX10_back 38 = .ok (.istore_n 2, 1) := by decide +kernel
theorem dX10_back_39 : decode cX10_back 39 = .ok (.iload_n 2, 1) := by decide +kernel
theorem dX10_back_40 : decode cX10_back 40 = .ok (.bipush 49, 2) := by decide +kernel
theorem dX10_back_42 : decode cX10_back 42 = .ok (.if_icmp .ge 26, 3) := by decide +kernel
theorem dX10_back_45 : decode cX10_back 45 = .ok (.aload_n 0, 1) := by decide +kernel
theorem dX10_back_46 : decode cX10_back 46 = .ok (.getfield 13, 3) := by decide +kernel
theorem dX10_back_49 : decode cX10_back 49 = .ok (.iload_n 2, 1) := by decide +kernel
theorem dX10_back_50 : decode cX10_back 50 = .ok (.aload_n 0, 1) := by decide +kernel
theorem dX10_back_51 : decode cX10_back 51 = .ok (.getfield 16, 3) := by decide +kernel
theorem dX10_back_54 : decode cX10_back 54 = .ok (.bipush 49, 2) := by decide +kernel
theorem dX10_back_56 : decode cX10_back 56 = .ok (.iload_n 1, 1) := by decide +kernel
theorem dX10_back_57 : decode cX10_back 57 = .ok (.imul, 1) := by decide +kernel
theorem dX10_back_58 : decode cX10_back 58 = .ok (.iload_n 2, 1) := by decide +kernel
theorem dX10_back_59 : decode cX10_back 59 = .ok (.iadd, 1) := by decide +kernel
theorem dX10_back_60 : decode cX10_back 60 = .ok (.iaload, 1) := by decide +kernel
theorem dX10_back_61 : decode cX10_back 61 = .ok (.iastore, 1) := by decide +kernel
theorem dX10_back_62 : decode cX10_back 62 = .ok (.iinc 2 1, 3) := by decide +kernel
theorem dX10_back_65 : decode cX10_back 65 = .ok (.goto (-26), 3) := by decide +kernel
theorem dX10_back_68 : decode cX10_back 68 = .ok (.iconst 0, 1) := by decide +kernel
theorem dX10_back_69 : decode cX10_back 69 = .ok (.istore_n 2, 1) := by decide +kernel
theorem dX10_back_70 : decode cX10_back 70 = .ok (.iload_n 2, 1) := by decide +kernel
theorem dX10_back_71 : decode cX10_back 71 = .ok (.bipush 25, 2) := by decide +kernel
theorem dX10_back_73 : decode cX10_back 73 = .ok (.if_icmp .ge 26, 3) := by decide +kernel
theorem dX10_back_76 : decode cX10_back 76 = .ok (.aload_n 0, 1) := by decide +kernel
theorem dX10_back_77 : decode cX10_back 77 = .ok (.getfield 19, 3) := by decide +kernel
theorem dX10_back_80 : decode cX10_back 80 = .ok (.iload_n 2, 1) := by decide +kernel
theorem dX10_back_81 : decode cX10_back 81 = .ok (.aload_n 0, 1) := by decide +kernel
theorem dX10_back_82 : decode cX10_back 82 = .ok (.getfield 23, 3) := by decide +kernel
theorem dX10_back_85 : decode cX10_back 85 = .ok (.bipush 25, 2) := by decide +kernel
theorem dX10_back_87 : decode cX10_back 87 = .ok (.iload_n 1, 1) := by decide +kernel
theorem dX10_back_88 : decode cX10_back 88 = .ok (.imul, 1) := by decide +kernel
theorem dX10_back_89 : decode cX10_back 89 = .ok (.iload_n 2, 1) := by decide +kernel
theorem dX10_back_90 : decode cX10_back 90 = .ok (.iadd, 1) := by decide +kernel
theorem dX10_back_91 : decode cX10_back 91 = .ok (.laload, 1) := by decide +kernel
theorem dX10_back_92 : decode cX10_back 92 = .ok (.lastore, 1) := by decide +kernel
theorem dX10_back_93 : decode cX10_back 93 = .ok (.iinc 2 1, 3) := by decide +kernel
theorem dX10_back_96 : decode cX10_back 96 = .ok (.goto (-26), 3) := by decide +kernel
theorem dX10_back_99 : decode cX10_back 99 = .ok (.aload_n 0, 1) := by decide +kernel
theorem dX10_back_100 : decode cX10_back 100 = .ok (.iconst 0, 1) := by decide +kernel
theorem dX10_back_101 : decode cX10_back 101 = .ok (.invokevirtual 87, 3) := by decide +kernel
theorem dX10_back_104 : decode cX10_back 104 = .ok (.ireturn, 1) := by decide +kernel
theorem dX10_isGlass_0 : decode cX10_isGlass 0 = .ok (.iload_n 1, 1) := by decide +kernel
theorem dX10_isGlass_1 : decode cX10_isGlass 1 = .ok (.i2l, 1) := by decide +kernel
theorem dX10_isGlass_2 : decode cX10_isGlass 2 = .ok (.lconst 0, 1) := by decide +kernel
theorem dX10_isGlass_3 : decode cX10_isGlass 3 = .ok (.aload_n 0, 1) := by decide +kernel
theorem dX10_isGlass_4 : decode cX10_isGlass 4 = .ok (.getfield 13, 3) := by decide +kernel
theorem dX10_isGlass_7 : decode cX10_isGlass 7 = .ok (.iconst 0, 1) := by decide +kernel
theorem dX10_isGlass_8 : decode cX10_isGlass 8 = .ok (.iaload, 1) := by decide +kernel
theorem dX10_isGlass_9 : decode cX10_isGlass 9 = .ok (.i2l, 1) := by decide +kernel
theorem dX10_isGlass_10 : decode cX10_isGlass 10 = .ok (.lconst 1, 1) := by decide +kernel
theorem dX10_isGlass_11 : decode cX10_isGlass 11 = .ok (.lsub, 1) := by decide +kernel
theorem dX10_isGlass_12 : decode cX10_isGlass 12 = .ok (.invokestatic 83, 3) := by decide +kernel
theorem dX10_isGlass_15 : decode cX10_isGlass 15 = .ok (.ireturn, 1) := by decide +kernel
theorem dX10_isStuff_0 : decode cX10_isStuff 0 = .ok (.iload_n 0, 1) := by decide +kernel
theorem dX10_isStuff_1 : decode cX10_isStuff 1 = .ok (.i2l, 1) := by decide +kernel
theorem dX10_isStuff_2 : decode cX10_isStuff 2 = .ok (.lconst 0, 1) := by decide +kernel
theorem dX10_isStuff_3 : decode cX10_isStuff 3 = .ok (.ldc2_w 91, 3) := by decide +kernel
theorem dX10_isStuff_6 : decode cX10_isStuff 6 = .ok (.invokestatic 83, 3) := by decide +kernel
theorem dX10_isStuff_9 : decode cX10_isStuff 9 = .ok (.ireturn, 1) := by decide +kernel
theorem dX10_isAmount_0 : decode cX10_isAmount 0 = .ok (.iload_n 0, 1) := by decide +kernel
theorem dX10_isAmount_1 : decode cX10_isAmount 1 = .ok (.i2l, 1) := by decide +kernel
theorem dX10_isAmount_2 : decode cX10_isAmount 2 = .ok (.lconst 1, 1) := by decide +kernel
theorem dX10_isAmount_3 : decode cX10_isAmount 3 = .ok (.ldc2_w 93, 3) := by decide +kernel
theorem dX10_isAmount_6 : decode cX10_isAmount 6 = .ok (.invokestatic 83, 3) := by decide +kernel
theorem dX10_isAmount_9 : decode cX10_isAmount 9 = .ok (.ireturn, 1) := by decide +kernel
theorem dX10_glass_0 : decode cX10_glass 0 = .ok (.aload_n 0, 1) := by decide +kernel
theorem dX10_glass_1 : decode cX10_glass 1 = .ok (.iconst 0, 1) := by decide +kernel
theorem dX10_glass_2 : decode cX10_glass 2 = .ok (.putfield 77, 3) := by decide +kernel
theorem dX10_glass_5 : decode cX10_glass 5 = .ok (.iload_n 1, 1) := by decide +kernel
theorem dX10_glass_6 : decode cX10_glass 6 = .ok (.invokestatic 95, 3) := by decide +kernel
theorem dX10_glass_9 : decode cX10_glass 9 = .ok (.ifCond .ne 9, 3) := by decide +kernel
theorem dX10_glass_12 : decode cX10_glass 12 = .ok (.aload_n 0, 1) := by decide +kernel
theorem dX10_glass_13 : decode cX10_glass 13 = .ok (.iconst (-1), 1) := by decide +kernel
theorem dX10_glass_14 : decode cX10_glass 14 = .ok (.invokevirtual 87, 3) := by decide +kernel
theorem dX10_glass_17 : decode cX10_glass 17 = .ok (.ireturn, 1) := by decide +kernel
theorem dX10_glass_18 : decode cX10_glass 18 = .ok (.aload_n 0, 1) := by decide +kernel
theorem dX10_glass_19 : decode cX10_glass 19 = .ok (.getfield 13, 3) := by decide +kernel
theorem dX10_glass_22 : decode cX10_glass 22 = .ok (.iconst 0, 1) := by decide +kernel
theorem dX10_glass_23 : decode cX10_glass 23 = .ok (.iaload, 1) := by decide +kernel
theorem dX10_glass_24 : decode cX10_glass 24 = .ok (.istore_n 2, 1) := by decide +kernel
theorem dX10_glass_25 : decode cX10_glass 25 = .ok (.iload_n 2, 1) := by decide +kernel
theorem dX10_glass_26 : decode cX10_glass 26 = .ok (.bipush 6, 2) := by decide +kernel
theorem dX10_glass_28 : decode cX10_glass 28 = .ok (.if_icmp .ne 10, 3) := by decide +kernel
theorem dX10_glass_31 : decode cX10_glass 31 = .ok (.aload_n 0, 1) := by decide +kernel
theorem dX10_glass_32 : decode cX10_glass 32 = .ok (.bipush (-5), 2) := by decide +kernel
theorem dX10_glass_34 : decode cX10_glass 34 = .ok (.invokevirtual 87, 3) := by decide +kernel
theorem dX10_glass_37 : decode cX10_glass 37 = .ok (.ireturn, 1) := by decide +kernel
theorem dX10_glass_38 : decode cX10_glass 38 = .ok (.aload_n 0, 1) := by decide +kernel
theorem dX10_glass_39 : decode cX10_glass 39 = .ok (.getfield 13, 3) := by decide +kernel
theorem dX10_glass_42 : decode cX10_glass 42 = .ok (.iconst 4, 1) := by decide +kernel
theorem dX10_glass_43 : decode cX10_glass 43 = .ok (.iload_n 2, 1) := by decide +kernel
theorem dX10_glass_44 : decode cX10_glass 44 = .ok (.iadd, 1) := by decide +kernel
theorem dX10_glass_45 : decode cX10_glass 45 = .ok (.iload_n 1, 1) := by decide +kernel
theorem dX10_glass_46 : decode cX10_glass 46 = .ok (.iastore, 1) := by decide +kernel
theorem dX10_glass_47 : decode cX10_glass 47 = .ok (.aload_n 0, 1) := by decide +kernel
theorem dX10_glass_48 : decode cX10_glass 48 = .ok (.getfield 13, 3) := by decide +kernel
theorem dX10_glass_51 : decode cX10_glass 51 = .ok (.iconst 0, 1) := by decide +kernel
theorem dX10_glass_52 : decode cX10_glass 52 = .ok (.dup2, 1) := by decide +kernel
theorem dX10_glass_53 : decode cX10_glass 53 = .ok (.iaload, 1) := by decide +kernel
theorem dX10_glass_54 : decode cX10_glass 54 = .ok (.iconst 1, 1) := by decide +kernel
theorem dX10_glass_55 : decode cX10_glass 55 = .ok (.iadd, 1) := by decide +kernel
theorem dX10_glass_56 : decode cX10_glass 56 = .ok (.iastore, 1) := by decide +kernel
theorem dX10_glass_57 : decode cX10_glass 57 = .ok (.aload_n 0, 1) := by decide +kernel
theorem dX10_glass_58 : decode cX10_glass 58 = .ok (.iload_n 2, 1) := by decide +kernel
theorem dX10_glass_59 : decode cX10_glass 59 = .ok (.invokevirtual 87, 3) := by decide +kernel
theorem dX10_glass_62 : decode cX10_glass 62 = .ok (.ireturn, 1) := by decide +kernel
theorem dX10_full_0 : decode cX10_full 0 = .ok (.lconst 0, 1) := by decide +kernel
theorem dX10_full_1 : decode cX10_full 1 = .ok (.lstore_n 2, 1) := by decide +kernel
theorem dX10_full_2 : decode cX10_full 2 = .ok (.iconst 0, 1) := by decide +kernel
theorem dX10_full_3 : decode cX10_full 3 = .ok (.istore 4, 2) := by decide +kernel
theorem dX10_full_5 : decode cX10_full 5 = .ok (.iload 4, 2) := by decide +kernel
theorem dX10_full_7 : decode cX10_full 7 = .ok (.iconst 4, 1) := by decide +kernel
theorem dX10_full_8 : decode cX10_full 8 = .ok (.if_icmp .ge 23, 3) := by decide +kernel
theorem dX10_full_11 : decode cX10_full 11 = .ok (.lload_n 2, 1) := by decide +kernel
theorem dX10_full_12 : decode cX10_full 12 = .ok (.aload_n 0, 1) := by decide +kernel
theorem dX10_full_13 : decode cX10_full 13 = .ok (.getfield 19, 3) := by decide +kernel
theorem dX10_full_16 : decode cX10_full 16 = .ok (.iconst 4, 1) := by decide +kernel
theorem dX10_full_17 : decode cX10_full 17 = .ok (.iload_n 1, 1) := by decide +kernel
theorem dX10_full_18 : decode cX10_full 18 = .ok (.imul, 1) := by decide +kernel
theorem dX10_full_19 : decode cX10_full 19 = .ok (.iload 4, 2) := by decide +kernel
theorem dX10_full_21 : decode cX10_full 21 = .ok (.iadd, 1) := by decide +kernel
theorem dX10_full_22 : decode cX10_full 22 = .ok (.laload, 1) := by decide +kernel
theorem dX10_full_23 : decode cX10_full 23 = .ok (.ladd, 1) := by decide +kernel
theorem dX10_full_24 : decode cX10_full 24 = .ok (.lstore_n 2, 1) := by decide +kernel
theorem dX10_full_25 : decode cX10_full 25 = .ok (.iinc 4 1, 3) := by decide +kernel
theorem dX10_full_28 : decode cX10_full 28 = .ok (.goto (-23), 3) := by decide +kernel
theorem dX10_full_31 : decode cX10_full 31 = .ok (.lload_n 2, 1) := by decide +kernel
theorem dX10_full_32 : decode cX10_full 32 = .ok (.aload_n 0, 1) := by decide +kernel
theorem dX10_full_33 : decode cX10_full 33 = .ok (.getfield 19, 3) := by decide +kernel
theorem dX10_full_36 : decode cX10_full 36 = .ok (.bipush 24, 2) := by decide +kernel
theorem dX10_full_38 : decode cX10_full 38 = .ok (.laload, 1) := by decide +kernel
theorem dX10_full_39 : decode cX10_full 39 = .ok (.ldiv, 1) := by decide +kernel
theorem dX10_full_40 : decode cX10_full 40 = .ok (.l2i, 1) := by decide +kernel
theorem dX10_full_41 : decode cX10_full 41 = .ok (.ireturn, 1) := by decide +kernel
theorem dX10_room_0 : decode cX10_room 0 = .ok (.aload_n 0, 1) := by decide +kernel
theorem dX10_room_1 : decode cX10_room 1 = .ok (.getfield 13, 3) := by decide +kernel
theorem dX10_room_4 : decode cX10_room 4 = .ok (.iconst 4, 1) := by decide +kernel
theorem dX10_room_5 : decode cX10_room 5 = .ok (.iload_n 1, 1) := by decide +kernel
theorem dX10_room_6 : decode cX10_room 6 = .ok (.iadd, 1) := by decide +kernel
theorem dX10_room_7 : decode cX10_room 7 = .ok (.iaload, 1) := by decide +kernel
theorem dX10_room_8 : decode cX10_room 8 = .ok (.aload_n 0, 1) := by decide +kernel
theorem dX10_room_9 : decode cX10_room 9 = .ok (.iload_n 1, 1) := by decide +kernel
theorem dX10_room_10 : decode cX10_room 10 = .ok (.invokevirtual 99, 3) := by decide +kernel
theorem dX10_room_13 : decode cX10_room 13 = .ok (.isub, 1) := by decide +kernel
theorem dX10_room_14 : decode cX10_room 14 = .ok (.ireturn, 1) := by decide +kernel
theorem dX10_of_0 : decode cX10_of 0 = .ok (.aload_n 0, 1) := by decide +kernel
theorem dX10_of_1 : decode cX10_of 1 = .ok (.iconst 0, 1) := by decide +kernel
theorem dX10_of_2 : decode cX10_of 2 = .ok (.putfield 77, 3) := by decide +kernel
theorem dX10_of_5 : decode cX10_of 5 = .ok (.aload_n 0, 1) := by decide +kernel
theorem dX10_of_6 : decode cX10_of 6 = .ok (.iload_n 1, 1) := by decide +kernel
theorem dX10_of_7 : decode cX10_of 7 = .ok (.invokevirtual 102, 3) := by decide +kernel
theorem dX10_of_10 : decode cX10_of 10 = .ok (.ifCond .eq 36, 3) := by decide +kernel
theorem dX10_of_13 : decode cX10_of 13 = .ok (.iload_n 2, 1) := by decide +kernel
theorem dX10_of_14 : decode cX10_of 14 = .ok (.i2l, 1) := by decide +kernel
theorem dX10_of_15 : decode cX10_of 15 = .ok (.lconst 0, 1) := by decide +kernel
theorem dX10_of_16 : decode cX10_of 16 = .ok (.lconst 1, 1) := by decide +kernel
theorem dX10_of_17 : decode cX10_of 17 = .ok (.invokestatic 83, 3) := by decide +kernel
theorem dX10_of_20 : decode cX10_of 20 = .ok (.ifCond .eq 26, 3) := by decide +kernel
theorem dX10_of_23 : decode cX10_of 23 = .ok (.iload_n 2, 1) := by decide +kernel
theorem dX10_of_24 : decode cX10_of 24 = .ok (.ifCond .ne 14, 3) := by decide +kernel
theorem dX10_of_27 : decode cX10_of 27 = .ok (.aload_n 0, 1) := by decide +kernel
theorem dX10_of_28 : decode cX10_of 28 = .ok (.getfield 13, 3) := by decide +kernel
theorem dX10_of_31 : decode cX10_of 31 = .ok (.iconst 4, 1) := by decide +kernel
theorem dX10_of_32 : decode cX10_of 32 = .ok (.iload_n 1, 1) := by decide +kernel
theorem dX10_of_33 : decode cX10_of 33 = .ok (.iadd, 1) := by decide +kernel
theorem dX10_of_34 : decode cX10_of 34 = .ok (.iaload, 1) := by decide +kernel
theorem dX10_of_35 : decode cX10_of 35 = .ok (.goto 12, 3) := by decide +kernel
theorem dX10_of_38 : decode cX10_of 38 = .ok (.aload_n 0, 1) := by decide +kernel
theorem dX10_of_39 : decode cX10_of 39 = .ok (.iload_n 1, 1) := by decide +kernel
theorem dX10_of_40 : decode cX10_of 40 = .ok (.invokevirtual 99, 3) := by decide +kernel
theorem dX10_of_43 : decode cX10_of 43 = .ok (.goto 4, 3) := by decide +kernel
theorem dX10_of_46 : decode cX10_of 46 = .ok (.iconst (-1), 1) := by decide +kernel
theorem dX10_of_47 : decode cX10_of 47 = .ok (.ireturn, 1) := by decide +kernel
theorem dX10_part_0 : decode cX10_part 0 = .ok (.aload_n 0, 1) := by decide +kernel
theorem dX10_part_1 : decode cX10_part 1 = .ok (.iconst 0, 1) := by decide +kernel
theorem dX10_part_2 : decode cX10_part 2 = .ok (.putfield 77, 3) := by decide +kernel
theorem dX10_part_5 : decode cX10_part 5 = .ok (.aload_n 0, 1) := by decide +kernel
theorem dX10_part_6 : decode cX10_part 6 = .ok (.iload_n 1, 1) := by decide +kernel
theorem dX10_part_7 : decode cX10_part 7 = .ok (.invokevirtual 102, 3) := by decide +kernel
theorem dX10_part_10 : decode cX10_part 10 = .ok (.ifCond .eq 23, 3) := by decide +kernel
theorem dX10_part_13 : decode cX10_part 13 = .ok (.iload_n 2, 1) := by decide +kernel
theorem dX10_part_14 : decode cX10_part 14 = .ok (.invokestatic 105, 3) := by decide +kernel
theorem dX10_part_17 : decode cX10_part 17 = .ok (.ifCond .eq 16, 3) := by decide +kernel
theorem dX10_part_20 : decode cX10_part 20 = .ok (.aload_n 0, 1) := by decide +kernel
theorem dX10_part_21 : decode cX10_part 21 = .ok (.getfield 19, 3) := by decide +kernel
theorem dX10_part_24 : decode cX10_part 24 = .ok (.iconst 4, 1) := by decide +kernel
theorem dX10_part_25 : decode cX10_part 25 = .ok (.iload_n 1, 1) := by decide +kernel
theorem dX10_part_26 : decode cX10_part 26 = .ok (.imul, 1) := by decide +kernel
theorem dX10_part_27 : decode cX10_part 27 = .ok (.iload_n 2, 1) := by decide +kernel
theorem dX10_part_28 : decode cX10_part 28 = .ok (.iadd, 1) := by decide +kernel
theorem dX10_part_29 : decode cX10_part 29 = .ok (.laload, 1) := by decide +kernel
theorem dX10_part_30 : decode cX10_part 30 = .ok (.goto 6, 3) := by decide +kernel
theorem dX10_part_33 : decode cX10_part 33 = .ok (.ldc2_w 108, 3) := by decide +kernel
theorem dX10_part_36 : decode cX10_part 36 = .ok (.lreturn, 1) := by decide +kernel
theorem dX10_lower_0 : decode cX10_lower 0 = .ok (.aload_n 0, 1) := by decide +kernel
theorem dX10_lower_1 : decode cX10_lower 1 = .ok (.iconst 0, 1) := by decide +kernel
theorem dX10_lower_2 : decode cX10_lower 2 = .ok (.putfield 77, 3) := by decide +kernel
theorem dX10_lower_5 : decode cX10_lower 5 = .ok (.aload_n 0, 1) := by decide +kernel
theorem dX10_lower_6 : decode cX10_lower 6 = .ok (.getfield 19, 3) := by decide +kernel
theorem dX10_lower_9 : decode cX10_lower 9 = .ok (.bipush 24, 2) := by decide +kernel
theorem dX10_lower_11 : decode cX10_lower 11 = .ok (.laload, 1) := by decide +kernel
theorem dX10_lower_12 : decode cX10_lower 12 = .ok (.lreturn, 1) := by decide +kernel
theorem dX10_tasteOf_0 : decode cX10_tasteOf 0 = .ok (.aload_n 0, 1) := by decide +kernel
theorem dX10_tasteOf_1 : decode cX10_tasteOf 1 = .ok (.iload_n 1, 1) := by decide +kernel
theorem dX10_tasteOf_2 : decode cX10_tasteOf 2 = .ok (.invokevirtual 99, 3) := by decide +kernel
theorem dX10_tasteOf_5 : decode cX10_tasteOf 5 = .ok (.istore_n 3, 1) := by decide +kernel
theorem dX10_tasteOf_6 : decode cX10_tasteOf 6 = .ok (.iload_n 3, 1) := by decide +kernel
theorem dX10_tasteOf_7 : decode cX10_tasteOf 7 = .ok (.ifCond .ne 7, 3) := by decide +kernel
theorem dX10_tasteOf_10 : decode cX10_tasteOf 10 = .ok (.iconst 0, 1) := by decide +kernel
theorem dX10_tasteOf_11 : decode cX10_tasteOf 11 = .ok (.goto 29, 3) := by decide +kernel
theorem dX10_tasteOf_14 : decode cX10_tasteOf 14 = .ok (.ldc2_w 110, 3) := by decide +kernel
theorem dX10_tasteOf_17 : decode cX10_tasteOf 17 = .ok (.aload_n 0, 1) := by decide +kernel
theorem dX10_tasteOf_18 : decode cX10_tasteOf 18 = .ok (.getfield 19, 3) := by decide +kernel
theorem dX10_tasteOf_21 : decode cX10_tasteOf 21 = .ok (.iconst 4, 1) := by decide +kernel
theorem dX10_tasteOf_22 : decode cX10_tasteOf 22 = .ok (.iload_n 1, 1) := by decide +kernel
theorem dX10_tasteOf_23 : decode cX10_tasteOf 23 = .ok (.imul, 1) := by decide +kernel
theorem dX10_tasteOf_24 : decode cX10_tasteOf 24 = .ok (.iload_n 2, 1) := by decide +kernel
theorem dX10_tasteOf_25 : decode cX10_tasteOf 25 = .ok (.iadd, 1) := by decide +kernel
theorem dX10_tasteOf_26 : decode cX10_tasteOf 26 = .ok (.laload, 1) := by decide +kernel
theorem dX10_tasteOf_27 : decode cX10_tasteOf 27 = .ok (.lmul, 1) := by decide +kernel
theorem dX10_tasteOf_28 : decode cX10_tasteOf 28 = .ok (.iload_n 3, 1) := by decide +kernel
theorem dX10_tasteOf_29 : decode cX10_tasteOf 29 = .ok (.i2l, 1) := by decide +kernel
theorem dX10_tasteOf_30 : decode cX10_tasteOf 30 = .ok (.aload_n 0, 1) := by decide +kernel
theorem dX10_tasteOf_31 : decode cX10_tasteOf 31 = .ok (.getfield 19, 3) := by decide +kernel
theorem dX10_tasteOf_34 : decode cX10_tasteOf 34 = .ok (.bipush 24, 2) := by decide +kernel
theorem dX10_tasteOf_36 : decode cX10_tasteOf 36 = .ok (.laload, 1) := by decide +kernel
theorem dX10_tasteOf_37 : decode cX10_tasteOf 37 = .ok (.lmul, 1) := by decide +kernel
theorem dX10_tasteOf_38 : decode cX10_tasteOf 38 = .ok (.ldiv, 1) := by decide +kernel
theorem dX10_tasteOf_39 : decode cX10_tasteOf 39 = .ok (.l2i, 1) := by decide +kernel
theorem dX10_tasteOf_40 : decode cX10_tasteOf 40 = .ok (.ireturn, 1) := by decide +kernel
theorem dX10_taste_0 : decode cX10_taste 0 = .ok (.aload_n 0, 1) := by decide +kernel
theorem dX10_taste_1 : decode cX10_taste 1 = .ok (.iconst 0, 1) := by decide +kernel
theorem dX10_taste_2 : decode cX10_taste 2 = .ok (.putfield 77, 3) := by decide +kernel
theorem dX10_taste_5 : decode cX10_taste 5 = .ok (.aload_n 0, 1) := by decide +kernel
theorem dX10_taste_6 : decode cX10_taste 6 = .ok (.iload_n 1, 1) := by decide +kernel
theorem dX10_taste_7 : decode cX10_taste 7 = .ok (.invokevirtual 102, 3) := by decide +kernel
theorem dX10_taste_10 : decode cX10_taste 10 = .ok (.ifCond .eq 19, 3) := by decide +kernel
theorem dX10_taste_13 : decode cX10_taste 13 = .ok (.iload_n 2, 1) := by decide +kernel
theorem dX10_taste_14 : decode cX10_taste 14 = .ok (.invokestatic 105, 3) := by decide +kernel
theorem dX10_taste_17 : decode cX10_taste 17 = .ok (.ifCond .eq 12, 3) := by decide +kernel
theorem dX10_taste_20 : decode cX10_taste 20 = .ok (.aload_n 0, 1) := by decide +kernel
theorem dX10_taste_21 : decode cX10_taste 21 = .ok (.iload_n 1, 1) := by decide +kernel
theorem dX10_taste_22 : decode cX10_taste 22 = .ok (.iload_n 2, 1) := by decide +kernel
theorem dX10_taste_23 : decode cX10_taste 23 = .ok (.invokevirtual 112, 3) := by decide +kernel
theorem dX10_taste_26 : decode cX10_taste 26 = .ok (.goto 4, 3) := by decide +kernel
theorem dX10_taste_29 : decode cX10_taste 29 = .ok (.iconst (-1), 1) := by decide +kernel
theorem dX10_taste_30 : decode cX10_taste 30 = .ok (.ireturn, 1) := by decide +kernel
theorem dX10_common_0 : decode cX10_common 0 = .ok (.lload_n 0, 1) := by decide +kernel
theorem dX10_common_1 : decode cX10_common 1 = .ok (.lstore 4, 2) := by decide +kernel
theorem dX10_common_3 : decode cX10_common 3 = .ok (.lload_n 2, 1) := by decide +kernel
theorem dX10_common_4 : decode cX10_common 4 = .ok (.lstore 6, 2) := by decide +kernel
theorem dX10_common_6 : decode cX10_common 6 = .ok (.lload 6, 2) := by decide +kernel
theorem dX10_common_8 : decode cX10_common 8 = .ok (.lconst 0, 1) := by decide +kernel
theorem dX10_common_9 : decode cX10_common 9 = .ok (.lcmp, 1) := by decide +kernel
theorem dX10_common_10 : decode cX10_common 10 = .ok (.ifCond .eq 21, 3) := by decide +kernel
theorem dX10_common_13 : decode cX10_common 13 = .ok (.lload 4, 2) := by decide +kernel
theorem dX10_common_15 : decode cX10_common 15 = .ok (.lload 6, 2) := by decide +kernel
theorem dX10_common_17 : decode cX10_common 17 = .ok (.lrem, 1) := by decide +kernel
theorem dX10_common_18 : decode cX10_common 18 = .ok (.lstore 8, 2) := by decide +kernel
theorem dX10_common_20 : decode cX10_common 20 = .ok (.lload 6, 2) := by decide +kernel
theorem dX10_common_22 : decode cX10_common 22 = .ok (.lstore 4, 2) := by decide +kernel
theorem dX10_common_24 : decode cX10_common 24 = .ok (.lload 8, 2) := by decide +kernel
theorem dX10_common_26 : decode cX10_common 26 = .ok (.lstore 6, 2) := by decide +kernel
theorem dX10_common_28 : decode cX10_common 28 = .ok (.goto (-22), 3) := by decide +kernel
theorem dX10_common_31 : decode cX10_common 31 = .ok (.lload 4, 2) := by decide +kernel
theorem dX10_common_33 : decode cX10_common 33 = .ok (.lreturn, 1) := by decide +kernel
theorem dX10_lessen_0 : decode cX10_lessen 0 = .ok (.aload_n 0, 1) := by decide +kernel
theorem dX10_lessen_1 : decode cX10_lessen 1 = .ok (.getfield 19, 3) := by decide +kernel
theorem dX10_lessen_4 : decode cX10_lessen 4 = .ok (.bipush 24, 2) := by decide +kernel
theorem dX10_lessen_6 : decode cX10_lessen 6 = .ok (.laload, 1) := by decide +kernel
theorem dX10_lessen_7 : decode cX10_lessen 7 = .ok (.lstore_n 1, 1) := by decide +kernel
theorem dX10_lessen_8 : decode cX10_lessen 8 = .ok (.iconst 0, 1) := by decide +kernel
theorem dX10_lessen_9 : decode cX10_lessen 9 = .ok (.istore_n 3, 1) := by decide +kernel
theorem dX10_lessen_10 : decode cX10_lessen 10 = .ok (.iload_n 3, 1) := by decide +kernel
theorem dX10_lessen_11 : decode cX10_lessen 11 = .ok (.bipush 24, 2) := by decide +kernel
theorem dX10_lessen_13 : decode cX10_lessen 13 = .ok (.if_icmp .ge 20, 3) := by decide +kernel
theorem dX10_lessen_16 : decode cX10_lessen 16 = .ok (.lload_n 1, 1) := by decide +kernel
theorem dX10_lessen_17 : decode cX10_lessen 17 = .ok (.aload_n 0, 1) := by decide +kernel
theorem dX10_lessen_18 : decode cX10_lessen 18 = .ok (.getfield 19, 3) := by decide +kernel
theorem dX10_lessen_21 : decode cX10_lessen 21 = .ok (.iload_n 3, 1) := by decide +kernel
theorem dX10_lessen_22 : decode cX10_lessen 22 = .ok (.laload, 1) := by decide +kernel
theorem dX10_lessen_23 : decode cX10_lessen 23 = .ok (.invokestatic 116, 3) := by decide +kernel
theorem dX10_lessen_26 : decode cX10_lessen 26 = .ok (.lstore_n 1, 1) := by decide +kernel
theorem dX10_lessen_27 : decode cX10_lessen 27 = .ok (.iinc 3 1, 3) := by decide +kernel
theorem dX10_lessen_30 : decode cX10_lessen 30 = .ok (.goto (-20), 3) := by decide +kernel
theorem dX10_lessen_33 : decode cX10_lessen 33 = .ok (.iconst 0, 1) := by decide +kernel
theorem dX10_lessen_34 : decode cX10_lessen 34 = .ok (.istore_n 3, 1) := by decide +kernel
theorem dX10_lessen_35 : decode cX10_lessen 35 = .ok (.iload_n 3, 1) := by decide +kernel
theorem dX10_lessen_36 : decode cX10_lessen 36 = .ok (.bipush 25, 2) := by decide +kernel
theorem dX10_lessen_38 : decode cX10_lessen 38 = .ok (.if_icmp .ge 19, 3) := by decide +kernel
theorem dX10_lessen_41 : decode cX10_lessen 41 = .ok (.aload_n 0, 1) := by decide +kernel
theorem dX10_lessen_42 : decode cX10_lessen 42 = .ok (.getfield 19, 3) := by decide +kernel
theorem dX10_lessen_45 : decode cX10_lessen 45 = .ok (.iload_n 3, 1) := by decide +kernel
theorem dX10_lessen_46 : decode cX10_lessen 46 = .ok (.dup2, 1) := by decide +kernel
theorem dX10_lessen_47 : decode cX10_lessen 47 = .ok (.laload, 1) := by decide +kernel
theorem dX10_lessen_48 : decode cX10_lessen 48 = .ok (.lload_n 1, 1) := by decide +kernel
theorem dX10_lessen_49 : decode cX10_lessen 49 = .ok (.ldiv, 1) := by decide +kernel
theorem dX10_lessen_50 : decode cX10_lessen 50 = .ok (.lastore, 1) := by decide +kernel
theorem dX10_lessen_51 : decode cX10_lessen 51 = .ok (.iinc 3 1, 3) := by decide +kernel
theorem dX10_lessen_54 : decode cX10_lessen 54 = .ok (.goto (-19), 3) := by decide +kernel
theorem dX10_lessen_57 : decode cX10_lessen 57 = .ok (.return_, 1) := by decide +kernel
theorem dX10_keep_0 : decode cX10_keep 0 = .ok (.iconst 0, 1) := by decide +kernel
theorem dX10_keep_1 : decode cX10_keep 1 = .ok (.istore_n 2, 1) := by decide +kernel
theorem dX10_keep_2 : decode cX10_keep 2 = .ok (.iload_n 2, 1) := by decide +kernel
theorem dX10_keep_3 : decode cX10_keep 3 = .ok (.bipush 25, 2) := by decide +kernel
theorem dX10_keep_5 : decode cX10_keep 5 = .ok (.if_icmp .ge 23, 3) := by decide +kernel
theorem dX10_keep_8 : decode cX10_keep 8 = .ok (.aload_n 0, 1) := by decide +kernel
theorem dX10_keep_9 : decode cX10_keep 9 = .ok (.getfield 30, 3) := by decide +kernel
theorem dX10_keep_12 : decode cX10_keep 12 = .ok (.iload_n 1, 1) := by decide +kernel
theorem dX10_keep_13 : decode cX10_keep 13 = .ok (.iload_n 2, 1) := by decide +kernel
theorem dX10_keep_14 : decode cX10_keep 14 = .ok (.iadd, 1) := by decide +kernel
theorem dX10_keep_15 : decode cX10_keep 15 = .ok (.aload_n 0, 1) := by decide +kernel
theorem dX10_keep_16 : decode cX10_keep 16 = .ok (.getfield 19, 3) := by decide +kernel
theorem dX10_keep_19 : decode cX10_keep 19 = .ok (.iload_n 2, 1) := by decide +kernel
theorem dX10_keep_20 : decode cX10_keep 20 = .ok (.laload, 1) := by decide +kernel
theorem dX10_keep_21 : decode cX10_keep 21 = .ok (.lastore, 1) := by decide +kernel
theorem dX10_keep_22 : decode cX10_keep 22 = .ok (.iinc 2 1, 3) := by decide +kernel
theorem dX10_keep_25 : decode cX10_keep 25 = .ok (.goto (-23), 3) := by decide +kernel
theorem dX10_keep_28 : decode cX10_keep 28 = .ok (.return_, 1) := by decide +kernel
theorem dX10_putBack_0 : decode cX10_putBack 0 = .ok (.iconst 0, 1) := by decide +kernel
theorem dX10_putBack_1 : decode cX10_putBack 1 = .ok (.istore_n 2, 1) := by decide +kernel
theorem dX10_putBack_2 : decode cX10_putBack 2 = .ok (.iload_n 2, 1) := by decide +kernel
theorem dX10_putBack_3 : decode cX10_putBack 3 = .ok (.bipush 25, 2) := by decide +kernel
theorem dX10_putBack_5 : decode cX10_putBack 5 = .ok (.if_icmp .ge 23, 3) := by decide +kernel
theorem dX10_putBack_8 : decode cX10_putBack 8 = .ok (.aload_n 0, 1) := by decide +kernel
theorem dX10_putBack_9 : decode cX10_putBack 9 = .ok (.getfield 19, 3) := by decide +kernel
theorem dX10_putBack_12 : decode cX10_putBack 12 = .ok (.iload_n 2, 1) := by decide +kernel
theorem dX10_putBack_13 : decode cX10_putBack 13 = .ok (.aload_n 0, 1) := by decide +kernel
theorem dX10_putBack_14 : decode cX10_putBack 14 = .ok (.getfield 30, 3) := by decide +kernel
theorem dX10_putBack_17 : decode cX10_putBack 17 = .ok (.iload_n 1, 1) := by decide +kernel
theorem dX10_putBack_18 : decode cX10_putBack 18 = .ok (.iload_n 2, 1) := by decide +kernel
theorem dX10_putBack_19 : decode cX10_putBack 19 = .ok (.iadd, 1) := by decide +kernel
theorem dX10_putBack_20 : decode cX10_putBack 20 = .ok (.laload, 1) := by decide +kernel
theorem dX10_putBack_21 : decode cX10_putBack 21 = .ok (.lastore, 1) := by decide +kernel
theorem dX10_putBack_22 : decode cX10_putBack 22 = .ok (.iinc 2 1, 3) := by decide +kernel
theorem dX10_putBack_25 : decode cX10_putBack 25 = .ok (.goto (-23), 3) := by decide +kernel
theorem dX10_putBack_28 : decode cX10_putBack 28 = .ok (.return_, 1) := by decide +kernel
theorem dX10_filled_0 : decode cX10_filled 0 = .ok (.aload_n 0, 1) := by decide +kernel
theorem dX10_filled_1 : decode cX10_filled 1 = .ok (.iload_n 1, 1) := by decide +kernel
theorem dX10_filled_2 : decode cX10_filled 2 = .ok (.invokevirtual 120, 3) := by decide +kernel
theorem dX10_filled_5 : decode cX10_filled 5 = .ok (.iload_n 3, 1) := by decide +kernel
theorem dX10_filled_6 : decode cX10_filled 6 = .ok (.if_icmp .ge 6, 3) := by decide +kernel
theorem dX10_filled_9 : decode cX10_filled 9 = .ok (.bipush (-3), 2) := by decide +kernel
theorem dX10_filled_11 : decode cX10_filled 11 = .ok (.ireturn, 1) := by decide +kernel
theorem dX10_filled_12 : decode cX10_filled 12 = .ok (.aload_n 0, 1) := by decide +kernel
theorem dX10_filled_13 : decode cX10_filled 13 = .ok (.getfield 19, 3) := by decide +kernel
theorem dX10_filled_16 : decode cX10_filled 16 = .ok (.iconst 4, 1) := by decide +kernel
theorem dX10_filled_17 : decode cX10_filled 17 = .ok (.iload_n 1, 1) := by decide +kernel
theorem dX10_filled_18 : decode cX10_filled 18 = .ok (.imul, 1) := by decide +kernel
theorem dX10_filled_19 : decode cX10_filled 19 = .ok (.iload_n 2, 1) := by decide +kernel
theorem dX10_filled_20 : decode cX10_filled 20 = .ok (.iadd, 1) := by decide +kernel
theorem dX10_filled_21 : decode cX10_filled 21 = .ok (.dup2, 1) := by decide +kernel
theorem dX10_filled_22 : decode cX10_filled 22 = .ok (.laload, 1) := by decide +kernel
theorem dX10_filled_23 : decode cX10_filled 23 = .ok (.iload_n 3, 1) := by decide +kernel
theorem dX10_filled_24 : decode cX10_filled 24 = .ok (.i2l, 1) := by decide +kernel
theorem dX10_filled_25 : decode cX10_filled 25 = .ok (.aload_n 0, 1) := by decide +kernel
theorem dX10_filled_26 : decode cX10_filled 26 = .ok (.getfield 19, 3) := by decide +kernel
theorem dX10_filled_29 : decode cX10_filled 29 = .ok (.bipush 24, 2) := by decide +kernel
theorem dX10_filled_31 : decode cX10_filled 31 = .ok (.laload, 1) := by decide +kernel
theorem dX10_filled_32 : decode cX10_filled 32 = .ok (.lmul, 1) := by decide +kernel
theorem dX10_filled_33 : decode cX10_filled 33 = .ok (.ladd, 1) := by decide +kernel
theorem dX10_filled_34 : decode cX10_filled 34 = .ok (.lastore, 1) := by decide +kernel
theorem dX10_filled_35 : decode cX10_filled 35 = .ok (.iconst 0, 1) := by decide +kernel
theorem dX10_filled_36 : decode cX10_filled 36 = .ok (.ireturn, 1) := by decide +kernel
theorem dX10_spooned_0 : decode cX10_spooned 0 = .ok (.aload_n 0, 1) := by decide +kernel
theorem dX10_spooned_1 : decode cX10_spooned 1 = .ok (.iload_n 1, 1) := by decide +kernel
theorem dX10_spooned_2 : decode cX10_spooned 2 = .ok (.invokevirtual 99, 3) := by decide +kernel
theorem dX10_spooned_5 : decode cX10_spooned 5 = .ok (.istore 4, 2) := by decide +kernel
theorem dX10_spooned_7 : decode cX10_spooned 7 = .ok (.iload_n 1, 1) := by decide +kernel
theorem dX10_spooned_8 : decode cX10_spooned 8 = .ok (.iload_n 2, 1) := by decide +kernel
theorem dX10_spooned_9 : decode cX10_spooned 9 = .ok (.if_icmp .eq 23, 3) := by decide +kernel
theorem dX10_spooned_12 : decode cX10_spooned 12 = .ok (.iload 4, 2) := by decide +kernel
theorem dX10_spooned_14 : decode cX10_spooned 14 = .ok (.iload_n 3, 1) := by decide +kernel
theorem dX10_spooned_15 : decode cX10_spooned 15 = .ok (.if_icmp .lt 17, 3) := by decide +kernel
theorem dX10_spooned_18 : decode cX10_spooned 18 = .ok (.iload_n 2, 1) := by decide +kernel
theorem dX10_spooned_19 : decode cX10_spooned 19 = .ok (.iconst (-1), 1) := by decide +kernel
theorem dX10_spooned_20 : decode cX10_spooned 20 = .ok (.if_icmp .eq 15, 3) := by decide +kernel
theorem dX10_spooned_23 : decode cX10_spooned 23 = .ok (.aload_n 0, 1) := by decide +kernel
theorem dX10_spooned_24 : decode cX10_spooned 24 = .ok (.iload_n 2, 1) := by decide +kernel
theorem dX10_spooned_25 : decode cX10_spooned 25 = .ok (.invokevirtual 120, 3) := by decide +kernel
theorem dX10_spooned_28 : decode cX10_spooned 28 = .ok (.iload_n 3, 1) := by decide +kernel
theorem dX10_spooned_29 : decode cX10_spooned 29 = .ok (.if_icmp .ge 6, 3) := by decide +kernel
theorem dX10_spooned_32 : decode cX10_spooned 32 = .ok (.bipush (-3), 2) := by decide +kernel
theorem dX10_spooned_34 : decode cX10_spooned 34 = .ok (.ireturn, 1) := by decide +kernel
theorem dX10_spooned_35 : decode cX10_spooned 35 = .ok (.aload_n 0, 1) := by decide +kernel
theorem dX10_spooned_36 : decode cX10_spooned 36 = .ok (.iconst 0, 1) := by decide +kernel
theorem dX10_spooned_37 : decode cX10_spooned 37 = .ok (.invokevirtual 123, 3) := by decide +kernel
theorem dX10_spooned_40 : decode cX10_spooned 40 = .ok (.iconst 0, 1) := by decide +kernel
theorem dX10_spooned_41 : decode cX10_spooned 41 = .ok (.istore 5, 2) := by decide +kernel
theorem dX10_spooned_43 : decode cX10_spooned 43 = .ok (.iload 5, 2) := by decide +kernel
theorem dX10_spooned_45 : decode cX10_spooned 45 = .ok (.bipush 25, 2) := by decide +kernel
theorem dX10_spooned_47 : decode cX10_spooned 47 = .ok (.if_icmp .ge 22, 3) := by decide +kernel
theorem dX10_spooned_50 : decode cX10_spooned 50 = .ok (.aload_n 0, 1) := by decide +kernel
theorem dX10_spooned_51 : decode cX10_spooned 51 = .ok (.getfield 19, 3) := by decide +kernel
theorem dX10_spooned_54 : decode cX10_spooned 54 = .ok (.iload 5, 2) := by decide +kernel
theorem dX10_spooned_56 : decode cX10_spooned 56 = .ok (.dup2, 1) := by decide +kernel
theorem dX10_spooned_57 : decode cX10_spooned 57 = .ok (.laload, 1) := by decide +kernel
theorem dX10_spooned_58 : decode cX10_spooned 58 = .ok (.iload 4, 2) := by decide +kernel
theorem dX10_spooned_60 : decode cX10_spooned 60 = .ok (.i2l, 1) := by decide +kernel
theorem dX10_spooned_61 : decode cX10_spooned 61 = .ok (.lmul, 1) := by decide +kernel
theorem dX10_spooned_62 : decode cX10_spooned 62 = .ok (.lastore, 1) := by decide +kernel
theorem dX10_spooned_63 : decode cX10_spooned 63 = .ok (.iinc 5 1, 3) := by decide +kernel
theorem dX10_spooned_66 : decode cX10_spooned 66 = .ok (.goto (-23), 3) := by decide +kernel
theorem dX10_spooned_69 : decode cX10_spooned 69 = .ok (.iconst 0, 1) := by decide +kernel
theorem dX10_spooned_70 : decode cX10_spooned 70 = .ok (.istore 5, 2) := by decide +kernel
theorem dX10_spooned_72 : decode cX10_spooned 72 = .ok (.iload 5, 2) := by decide +kernel
theorem dX10_spooned_74 : decode cX10_spooned 74 = .ok (.iconst 4, 1) := by decide +kernel
theorem dX10_spooned_75 : decode cX10_spooned 75 = .ok (.if_icmp .ge 34, 3) := by decide +kernel
theorem dX10_spooned_78 : decode cX10_spooned 78 = .ok (.aload_n 0, 1) := by decide +kernel
theorem dX10_spooned_79 : decode cX10_spooned 79 = .ok (.getfield 33, 3) := by decide +kernel
theorem dX10_spooned_82 : decode cX10_spooned 82 = .ok (.iload 5, 2) := by decide +kernel
theorem dX10_spooned_84 : decode cX10_spooned 84 = .ok (.aload_n 0, 1) := by decide +kernel
theorem dX10_spooned_85 : decode cX10_spooned 85 = .ok (.getfield 19, 3) := by decide +kernel
theorem dX10_spooned_88 : decode cX10_spooned 88 = .ok (.iconst 4, 1) := by decide +kernel
theorem dX10_spooned_89 : decode cX10_spooned 89 = .ok (.iload_n 1, 1) := by decide +kernel
theorem dX10_spooned_90 : decode cX10_spooned 90 = .ok (.imul, 1) := by decide +kernel
theorem dX10_spooned_91 : decode cX10_spooned 91 = .ok (.iload 5, 2) := by decide +kernel
theorem dX10_spooned_93 : decode cX10_spooned 93 = .ok (.iadd, 1) := by decide +kernel
theorem dX10_spooned_94 : decode cX10_spooned 94 = .ok (.laload, 1) := by decide +kernel
theorem dX10_spooned_95 : decode cX10_spooned 95 = .ok (.iload 4, 2) := by decide +kernel
theorem dX10_spooned_97 : decode cX10_spooned 97 = .ok (.i2l, 1) := by decide +kernel
theorem dX10_spooned_98 : decode cX10_spooned 98 = .ok (.ldiv, 1) := by decide +kernel
theorem dX10_spooned_99 : decode cX10_spooned 99 = .ok (.iload_n 3, 1) := by decide +kernel
theorem dX10_spooned_100 : decode cX10_spooned 100 = .ok (.i2l, 1) := by decide +kernel
theorem dX10_spooned_101 : decode cX10_spooned 101 = .ok (.lmul, 1) := by decide +kernel
theorem dX10_spooned_102 : decode cX10_spooned 102 = .ok (.lastore, 1) := by decide +kernel
theorem dX10_spooned_103 : decode cX10_spooned 103 = .ok (.iinc 5 1, 3) := by decide +kernel
theorem dX10_spooned_106 : decode cX10_spooned 106 = .ok (.goto (-34), 3) := by decide +kernel
theorem dX10_spooned_109 : decode cX10_spooned 109 = .ok (.iconst 0, 1) := by decide +kernel
theorem dX10_spooned_110 : decode cX10_spooned 110 = .ok (.istore 5, 2) := by decide +kernel
theorem dX10_spooned_112 : decode cX10_spooned 112 = .ok (.iload 5, 2) := by decide +kernel
theorem dX10_spooned_114 : decode cX10_spooned 114 = .ok (.iconst 4, 1) := by decide +kernel
theorem dX10_spooned_115 : decode cX10_spooned 115 = .ok (.if_icmp .ge 56, 3) := by decide +kernel
theorem dX10_spooned_118 : decode cX10_spooned 118 = .ok (.aload_n 0, 1) := by decide +kernel
theorem dX10_spooned_119 : decode cX10_spooned 119 = .ok (.getfield 19, 3) := by decide +kernel
theorem dX10_spooned_122 : decode cX10_spooned 122 = .ok (.iconst 4, 1) := by decide +kernel
theorem dX10_spooned_123 : decode cX10_spooned 123 = .ok (.iload_n 1, 1) := by decide +kernel
theorem dX10_spooned_124 : decode cX10_spooned 124 = .ok (.imul, 1) := by decide +kernel
theorem dX10_spooned_125 : decode cX10_spooned 125 = .ok (.iload 5, 2) := by decide +kernel
theorem dX10_spooned_127 : decode cX10_spooned 127 = .ok (.iadd, 1) := by decide +kernel
theorem dX10_spooned_128 : decode cX10_spooned 128 = .ok (.dup2, 1) := by decide +kernel
theorem dX10_spooned_129 : decode cX10_spooned 129 = .ok (.laload, 1) := by decide +kernel
theorem dX10_spooned_130 : decode cX10_spooned 130 = .ok (.aload_n 0, 1) := by decide +kernel
theorem dX10_spooned_131 : decode cX10_spooned 131 = .ok (.getfield 33, 3) := by decide +kernel
theorem dX10_spooned_134 : decode cX10_spooned 134 = .ok (.iload 5, 2) := by decide +kernel
theorem dX10_spooned_136 : decode cX10_spooned 136 = .ok (.laload, 1) := by decide +kernel
theorem dX10_spooned_137 : decode cX10_spooned 137 = .ok (.lsub, 1) := by decide +kernel
theorem dX10_spooned_138 : decode cX10_spooned 138 = .ok (.lastore, 1) := by decide +kernel
theorem dX10_spooned_139 : decode cX10_spooned 139 = .ok (.iload_n 2, 1) := by decide +kernel
theorem dX10_spooned_140 : decode cX10_spooned 140 = .ok (.iconst (-1), 1) := by decide +kernel
theorem dX10_spooned_141 : decode cX10_spooned 141 = .ok (.if_icmp .eq 24, 3) := by decide +kernel
theorem dX10_spooned_144 : decode cX10_spooned 144 = .ok (.aload_n 0, 1) := by decide +kernel
theorem dX10_spooned_145 : decode cX10_spooned 145 = .ok (.getfield 19, 3) := by decide +kernel
theorem dX10_spooned_148 : decode cX10_spooned 148 = .ok (.iconst 4, 1) := by decide +kernel
theorem dX10_spooned_149 : decode cX10_spooned 149 = .ok (.iload_n 2, 1) := by decide +kernel
theorem dX10_spooned_150 : decode cX10_spooned 150 = .ok (.imul, 1) := by decide +kernel
theorem dX10_spooned_151 : decode cX10_spooned 151 = .ok (.iload 5, 2) := by decide +kernel
theorem dX10_spooned_153 : decode cX10_spooned 153 = .ok (.iadd, 1) := by decide +kernel
theorem dX10_spooned_154 : decode cX10_spooned 154 = .ok (.dup2, 1) := by decide +kernel
theorem dX10_spooned_155 : decode cX10_spooned 155 = .ok (.laload, 1) := by decide +kernel
theorem dX10_spooned_156 : decode cX10_spooned 156 = .ok (.aload_n 0, 1) := by decide +kernel
theorem dX10_spooned_157 : decode cX10_spooned 157 = .ok (.getfield 33, 3) := by decide +kernel
theorem dX10_spooned_160 : decode cX10_spooned 160 = .ok (.iload 5, 2) := by decide +kernel
theorem dX10_spooned_162 : decode cX10_spooned 162 = .ok (.laload, 1) := by decide +kernel
theorem dX10_spooned_163 : decode cX10_spooned 163 = .ok (.ladd, 1) := by decide +kernel
theorem dX10_spooned_164 : decode cX10_spooned 164 = .ok (.lastore, 1) := by decide +kernel
theorem dX10_spooned_165 : decode cX10_spooned 165 = .ok (.iinc 5 1, 3) := by decide +kernel
theorem dX10_spooned_168 : decode cX10_spooned 168 = .ok (.goto (-56), 3) := by decide +kernel
theorem dX10_spooned_171 : decode cX10_spooned 171 = .ok (.aload_n 0, 1) := by decide +kernel
theorem dX10_spooned_172 : decode cX10_spooned 172 = .ok (.invokevirtual 127, 3) := by decide +kernel
theorem dX10_spooned_175 : decode cX10_spooned 175 = .ok (.aload_n 0, 1) := by decide +kernel
theorem dX10_spooned_176 : decode cX10_spooned 176 = .ok (.getfield 19, 3) := by decide +kernel
theorem dX10_spooned_179 : decode cX10_spooned 179 = .ok (.bipush 24, 2) := by decide +kernel
theorem dX10_spooned_181 : decode cX10_spooned 181 = .ok (.laload, 1) := by decide +kernel
theorem dX10_spooned_182 : decode cX10_spooned 182 = .ok (.ldc2_w 130, 3) := by decide +kernel
theorem dX10_spooned_185 : decode cX10_spooned 185 = .ok (.lcmp, 1) := by decide +kernel
theorem dX10_spooned_186 : decode cX10_spooned 186 = .ok (.ifCond .le 11, 3) := by decide +kernel
theorem dX10_spooned_189 : decode cX10_spooned 189 = .ok (.aload_n 0, 1) := by decide +kernel
theorem dX10_spooned_190 : decode cX10_spooned 190 = .ok (.iconst 0, 1) := by decide +kernel
theorem dX10_spooned_191 : decode cX10_spooned 191 = .ok (.invokevirtual 132, 3) := by decide +kernel
theorem dX10_spooned_194 : decode cX10_spooned 194 = .ok (.bipush (-5), 2) := by decide +kernel
theorem dX10_spooned_196 : decode cX10_spooned 196 = .ok (.ireturn, 1) := by decide +kernel
theorem dX10_spooned_197 : decode cX10_spooned 197 = .ok (.iconst 0, 1) := by decide +kernel
theorem dX10_spooned_198 : decode cX10_spooned 198 = .ok (.ireturn, 1) := by decide +kernel
theorem dX10_fill_0 : decode cX10_fill 0 = .ok (.aload_n 0, 1) := by decide +kernel
theorem dX10_fill_1 : decode cX10_fill 1 = .ok (.iconst 0, 1) := by decide +kernel
theorem dX10_fill_2 : decode cX10_fill 2 = .ok (.putfield 77, 3) := by decide +kernel
theorem dX10_fill_5 : decode cX10_fill 5 = .ok (.iload_n 2, 1) := by decide +kernel
theorem dX10_fill_6 : decode cX10_fill 6 = .ok (.invokestatic 105, 3) := by decide +kernel
theorem dX10_fill_9 : decode cX10_fill 9 = .ok (.ifCond .eq 10, 3) := by decide +kernel
theorem dX10_fill_12 : decode cX10_fill 12 = .ok (.iload_n 3, 1) := by decide +kernel
theorem dX10_fill_13 : decode cX10_fill 13 = .ok (.invokestatic 95, 3) := by decide +kernel
theorem dX10_fill_16 : decode cX10_fill 16 = .ok (.ifCond .ne 9, 3) := by decide +kernel
theorem dX10_fill_19 : decode cX10_fill 19 = .ok (.aload_n 0, 1) := by decide +kernel
theorem dX10_fill_20 : decode cX10_fill 20 = .ok (.iconst (-1), 1) := by decide +kernel
theorem dX10_fill_21 : decode cX10_fill 21 = .ok (.invokevirtual 87, 3) := by decide +kernel
theorem dX10_fill_24 : decode cX10_fill 24 = .ok (.ireturn, 1) := by decide +kernel
theorem dX10_fill_25 : decode cX10_fill 25 = .ok (.aload_n 0, 1) := by decide +kernel
theorem dX10_fill_26 : decode cX10_fill 26 = .ok (.iload_n 1, 1) := by decide +kernel
theorem dX10_fill_27 : decode cX10_fill 27 = .ok (.invokevirtual 102, 3) := by decide +kernel
theorem dX10_fill_30 : decode cX10_fill 30 = .ok (.ifCond .ne 10, 3) := by decide +kernel
theorem dX10_fill_33 : decode cX10_fill 33 = .ok (.aload_n 0, 1) := by decide +kernel
theorem dX10_fill_34 : decode cX10_fill 34 = .ok (.bipush (-2), 2) := by decide +kernel
theorem dX10_fill_36 : decode cX10_fill 36 = .ok (.invokevirtual 87, 3) := by decide +kernel
theorem dX10_fill_39 : decode cX10_fill 39 = .ok (.ireturn, 1) := by decide +kernel
theorem dX10_fill_40 : decode cX10_fill 40 = .ok (.aload_n 0, 1) := by decide +kernel
theorem dX10_fill_41 : decode cX10_fill 41 = .ok (.aload_n 0, 1) := by decide +kernel
theorem dX10_fill_42 : decode cX10_fill 42 = .ok (.iload_n 1, 1) := by decide +kernel
theorem dX10_fill_43 : decode cX10_fill 43 = .ok (.iload_n 2, 1) := by decide +kernel
theorem dX10_fill_44 : decode cX10_fill 44 = .ok (.iload_n 3, 1) := by decide +kernel
theorem dX10_fill_45 : decode cX10_fill 45 = .ok (.invokevirtual 135, 3) := by decide +kernel
theorem dX10_fill_48 : decode cX10_fill 48 = .ok (.ifCond .ge 8, 3) := by decide +kernel
theorem dX10_fill_51 : decode cX10_fill 51 = .ok (.bipush (-3), 2) := by decide +kernel
theorem dX10_fill_53 : decode cX10_fill 53 = .ok (.goto 8, 3) := by decide +kernel
theorem dX10_fill_56 : decode cX10_fill 56 = .ok (.aload_n 0, 1) := by decide +kernel
theorem dX10_fill_57 : decode cX10_fill 57 = .ok (.iload_n 1, 1) := by decide +kernel
theorem dX10_fill_58 : decode cX10_fill 58 = .ok (.invokevirtual 99, 3) := by decide +kernel
theorem dX10_fill_61 : decode cX10_fill 61 = .ok (.invokevirtual 87, 3) := by decide +kernel
theorem dX10_fill_64 : decode cX10_fill 64 = .ok (.ireturn, 1) := by decide +kernel
theorem dX10_spoon_0 : decode cX10_spoon 0 = .ok (.aload_n 0, 1) := by decide +kernel
theorem dX10_spoon_1 : decode cX10_spoon 1 = .ok (.iconst 0, 1) := by decide +kernel
theorem dX10_spoon_2 : decode cX10_spoon 2 = .ok (.putfield 77, 3) := by decide +kernel
theorem dX10_spoon_5 : decode cX10_spoon 5 = .ok (.iload_n 3, 1) := by decide +kernel
theorem dX10_spoon_6 : decode cX10_spoon 6 = .ok (.invokestatic 95, 3) := by decide +kernel
theorem dX10_spoon_9 : decode cX10_spoon 9 = .ok (.ifCond .ne 9, 3) := by decide +kernel
theorem dX10_spoon_12 : decode cX10_spoon 12 = .ok (.aload_n 0, 1) := by decide +kernel
theorem dX10_spoon_13 : decode cX10_spoon 13 = .ok (.iconst (-1), 1) := by decide +kernel
theorem dX10_spoon_14 : decode cX10_spoon 14 = .ok (.invokevirtual 87, 3) := by decide +kernel
theorem dX10_spoon_17 : decode cX10_spoon 17 = .ok (.ireturn, 1) := by decide +kernel
theorem dX10_spoon_18 : decode cX10_spoon 18 = .ok (.aload_n 0, 1) := by decide +kernel
theorem dX10_spoon_19 : decode cX10_spoon 19 = .ok (.iload_n 1, 1) := by decide +kernel
theorem dX10_spoon_20 : decode cX10_spoon 20 = .ok (.invokevirtual 102, 3) := by decide +kernel
theorem dX10_spoon_23 : decode cX10_spoon 23 = .ok (.ifCond .eq 11, 3) := by decide +kernel
theorem dX10_spoon_26 : decode cX10_spoon 26 = .ok (.aload_n 0, 1) := by decide +kernel
theorem dX10_spoon_27 : decode cX10_spoon 27 = .ok (.iload_n 2, 1) := by decide +kernel
theorem dX10_spoon_28 : decode cX10_spoon 28 = .ok (.invokevirtual 102, 3) := by decide +kernel
theorem dX10_spoon_31 : decode cX10_spoon 31 = .ok (.ifCond .ne 10, 3) := by decide +kernel
theorem dX10_spoon_34 : decode cX10_spoon 34 = .ok (.aload_n 0, 1) := by decide +kernel
theorem dX10_spoon_35 : decode cX10_spoon 35 = .ok (.bipush (-2), 2) := by decide +kernel
theorem dX10_spoon_37 : decode cX10_spoon 37 = .ok (.invokevirtual 87, 3) := by decide +kernel
theorem dX10_spoon_40 : decode cX10_spoon 40 = .ok (.ireturn, 1) := by decide +kernel
theorem dX10_spoon_41 : decode cX10_spoon 41 = .ok (.aload_n 0, 1) := by decide +kernel
theorem dX10_spoon_42 : decode cX10_spoon 42 = .ok (.iload_n 1, 1) := by decide +kernel
theorem dX10_spoon_43 : decode cX10_spoon 43 = .ok (.iload_n 2, 1) := by decide +kernel
theorem dX10_spoon_44 : decode cX10_spoon 44 = .ok (.iload_n 3, 1) := by decide +kernel
theorem dX10_spoon_45 : decode cX10_spoon 45 = .ok (.invokevirtual 139, 3) := by decide +kernel
theorem dX10_spoon_48 : decode cX10_spoon 48 = .ok (.istore 4, 2) := by decide +kernel
theorem dX10_spoon_50 : decode cX10_spoon 50 = .ok (.aload_n 0, 1) := by decide +kernel
theorem dX10_spoon_51 : decode cX10_spoon 51 = .ok (.iload 4, 2) := by decide +kernel
theorem dX10_spoon_53 : decode cX10_spoon 53 = .ok (.ifCond .ge 8, 3) := by decide +kernel
theorem dX10_spoon_56 : decode cX10_spoon 56 = .ok (.iload 4, 2) := by decide +kernel
theorem dX10_spoon_58 : decode cX10_spoon 58 = .ok (.goto 8, 3) := by decide +kernel
theorem dX10_spoon_61 : decode cX10_spoon 61 = .ok (.aload_n 0, 1) := by decide +kernel
theorem dX10_spoon_62 : decode cX10_spoon 62 = .ok (.iload_n 2, 1) := by decide +kernel
theorem dX10_spoon_63 : decode cX10_spoon 63 = .ok (.invokevirtual 99, 3) := by decide +kernel
theorem dX10_spoon_66 : decode cX10_spoon 66 = .ok (.invokevirtual 87, 3) := by decide +kernel
theorem dX10_spoon_69 : decode cX10_spoon 69 = .ok (.ireturn, 1) := by decide +kernel
theorem dX10_lick_0 : decode cX10_lick 0 = .ok (.aload_n 0, 1) := by decide +kernel
theorem dX10_lick_1 : decode cX10_lick 1 = .ok (.iconst 0, 1) := by decide +kernel
theorem dX10_lick_2 : decode cX10_lick 2 = .ok (.putfield 77, 3) := by decide +kernel
theorem dX10_lick_5 : decode cX10_lick 5 = .ok (.iload_n 2, 1) := by decide +kernel
theorem dX10_lick_6 : decode cX10_lick 6 = .ok (.invokestatic 95, 3) := by decide +kernel
theorem dX10_lick_9 : decode cX10_lick 9 = .ok (.ifCond .ne 9, 3) := by decide +kernel
theorem dX10_lick_12 : decode cX10_lick 12 = .ok (.aload_n 0, 1) := by decide +kernel
theorem dX10_lick_13 : decode cX10_lick 13 = .ok (.iconst (-1), 1) := by decide +kernel
theorem dX10_lick_14 : decode cX10_lick 14 = .ok (.invokevirtual 87, 3) := by decide +kernel
theorem dX10_lick_17 : decode cX10_lick 17 = .ok (.ireturn, 1) := by decide +kernel
theorem dX10_lick_18 : decode cX10_lick 18 = .ok (.aload_n 0, 1) := by decide +kernel
theorem dX10_lick_19 : decode cX10_lick 19 = .ok (.iload_n 1, 1) := by decide +kernel
theorem dX10_lick_20 : decode cX10_lick 20 = .ok (.invokevirtual 102, 3) := by decide +kernel
theorem dX10_lick_23 : decode cX10_lick 23 = .ok (.ifCond .ne 10, 3) := by decide +kernel
theorem dX10_lick_26 : decode cX10_lick 26 = .ok (.aload_n 0, 1) := by decide +kernel
theorem dX10_lick_27 : decode cX10_lick 27 = .ok (.bipush (-2), 2) := by decide +kernel
theorem dX10_lick_29 : decode cX10_lick 29 = .ok (.invokevirtual 87, 3) := by decide +kernel
theorem dX10_lick_32 : decode cX10_lick 32 = .ok (.ireturn, 1) := by decide +kernel
theorem dX10_lick_33 : decode cX10_lick 33 = .ok (.aload_n 0, 1) := by decide +kernel
theorem dX10_lick_34 : decode cX10_lick 34 = .ok (.iload_n 1, 1) := by decide +kernel
theorem dX10_lick_35 : decode cX10_lick 35 = .ok (.iconst (-1), 1) := by decide +kernel
theorem dX10_lick_36 : decode cX10_lick 36 = .ok (.iload_n 2, 1) := by decide +kernel
theorem dX10_lick_37 : decode cX10_lick 37 = .ok (.invokevirtual 139, 3) := by decide +kernel
theorem dX10_lick_40 : decode cX10_lick 40 = .ok (.istore_n 3, 1) := by decide +kernel
theorem dX10_lick_41 : decode cX10_lick 41 = .ok (.aload_n 0, 1) := by decide +kernel
theorem dX10_lick_42 : decode cX10_lick 42 = .ok (.iload_n 3, 1) := by decide +kernel
theorem dX10_lick_43 : decode cX10_lick 43 = .ok (.ifCond .ge 7, 3) := by decide +kernel
theorem dX10_lick_46 : decode cX10_lick 46 = .ok (.iload_n 3, 1) := by decide +kernel
theorem dX10_lick_47 : decode cX10_lick 47 = .ok (.goto 8, 3) := by decide +kernel
theorem dX10_lick_50 : decode cX10_lick 50 = .ok (.aload_n 0, 1) := by decide +kernel
theorem dX10_lick_51 : decode cX10_lick 51 = .ok (.iload_n 1, 1) := by decide +kernel
theorem dX10_lick_52 : decode cX10_lick 52 = .ok (.invokevirtual 99, 3) := by decide +kernel
theorem dX10_lick_55 : decode cX10_lick 55 = .ok (.invokevirtual 87, 3) := by decide +kernel
theorem dX10_lick_58 : decode cX10_lick 58 = .ok (.ireturn, 1) := by decide +kernel
theorem dX10_empty_0 : decode cX10_empty 0 = .ok (.aload_n 0, 1) := by decide +kernel
theorem dX10_empty_1 : decode cX10_empty 1 = .ok (.iconst 0, 1) := by decide +kernel
theorem dX10_empty_2 : decode cX10_empty 2 = .ok (.putfield 77, 3) := by decide +kernel
theorem dX10_empty_5 : decode cX10_empty 5 = .ok (.aload_n 0, 1) := by decide +kernel
theorem dX10_empty_6 : decode cX10_empty 6 = .ok (.iload_n 1, 1) := by decide +kernel
theorem dX10_empty_7 : decode cX10_empty 7 = .ok (.invokevirtual 102, 3) := by decide +kernel
theorem dX10_empty_10 : decode cX10_empty 10 = .ok (.ifCond .ne 10, 3) := by decide +kernel
theorem dX10_empty_13 : decode cX10_empty 13 = .ok (.aload_n 0, 1) := by decide +kernel
theorem dX10_empty_14 : decode cX10_empty 14 = .ok (.bipush (-2), 2) := by decide +kernel
theorem dX10_empty_16 : decode cX10_empty 16 = .ok (.invokevirtual 87, 3) := by decide +kernel
theorem dX10_empty_19 : decode cX10_empty 19 = .ok (.ireturn, 1) := by decide +kernel
theorem dX10_empty_20 : decode cX10_empty 20 = .ok (.aload_n 0, 1) := by decide +kernel
theorem dX10_empty_21 : decode cX10_empty 21 = .ok (.iload_n 1, 1) := by decide +kernel
theorem dX10_empty_22 : decode cX10_empty 22 = .ok (.invokevirtual 99, 3) := by decide +kernel
theorem dX10_empty_25 : decode cX10_empty 25 = .ok (.istore_n 2, 1) := by decide +kernel
theorem dX10_empty_26 : decode cX10_empty 26 = .ok (.iconst 0, 1) := by decide +kernel
theorem dX10_empty_27 : decode cX10_empty 27 = .ok (.istore_n 3, 1) := by decide +kernel
theorem dX10_empty_28 : decode cX10_empty 28 = .ok (.iload_n 3, 1) := by decide +kernel
theorem dX10_empty_29 : decode cX10_empty 29 = .ok (.iconst 4, 1) := by decide +kernel
theorem dX10_empty_30 : decode cX10_empty 30 = .ok (.if_icmp .ge 20, 3) := by decide +kernel
theorem dX10_empty_33 : decode cX10_empty 33 = .ok (.aload_n 0, 1) := by decide +kernel
theorem dX10_empty_34 : decode cX10_empty 34 = .ok (.getfield 19, 3) := by decide +kernel
theorem dX10_empty_37 : decode cX10_empty 37 = .ok (.iconst 4, 1) := by decide +kernel
theorem dX10_empty_38 : decode cX10_empty 38 = .ok (.iload_n 1, 1) := by decide +kernel
theorem dX10_empty_39 : decode cX10_empty 39 = .ok (.imul, 1) := by decide +kernel
theorem dX10_empty_40 : decode cX10_empty 40 = .ok (.iload_n 3, 1) := by decide +kernel
theorem dX10_empty_41 : decode cX10_empty 41 = .ok (.iadd, 1) := by decide +kernel
theorem dX10_empty_42 : decode cX10_empty 42 = .ok (.lconst 0, 1) := by decide +kernel
theorem dX10_empty_43 : decode cX10_empty 43 = .ok (.lastore, 1) := by decide +kernel
theorem dX10_empty_44 : decode cX10_empty 44 = .ok (.iinc 3 1, 3) := by decide +kernel
theorem dX10_empty_47 : decode cX10_empty 47 = .ok (.goto (-19), 3) := by decide +kernel
theorem dX10_empty_50 : decode cX10_empty 50 = .ok (.aload_n 0, 1) := by decide +kernel
theorem dX10_empty_51 : decode cX10_empty 51 = .ok (.invokevirtual 127, 3) := by decide +kernel
theorem dX10_empty_54 : decode cX10_empty 54 = .ok (.aload_n 0, 1) := by decide +kernel
theorem dX10_empty_55 : decode cX10_empty 55 = .ok (.iload_n 2, 1) := by decide +kernel
theorem dX10_empty_56 : decode cX10_empty 56 = .ok (.invokevirtual 87, 3) := by decide +kernel
theorem dX10_empty_59 : decode cX10_empty 59 = .ok (.ireturn, 1) := by decide +kernel
theorem dX10_row_0 : decode cX10_row 0 = .ok (.aload_n 0, 1) := by decide +kernel
theorem dX10_row_1 : decode cX10_row 1 = .ok (.iconst 0, 1) := by decide +kernel
theorem dX10_row_2 : decode cX10_row 2 = .ok (.putfield 77, 3) := by decide +kernel
theorem dX10_row_5 : decode cX10_row 5 = .ok (.aload_n 0, 1) := by decide +kernel
theorem dX10_row_6 : decode cX10_row 6 = .ok (.getfield 142, 3) := by decide +kernel
theorem dX10_row_9 : decode cX10_row 9 = .ok (.istore_n 1, 1) := by decide +kernel
theorem dX10_row_10 : decode cX10_row 10 = .ok (.aload_n 0, 1) := by decide +kernel
theorem dX10_row_11 : decode cX10_row 11 = .ok (.iconst 0, 1) := by decide +kernel
theorem dX10_row_12 : decode cX10_row 12 = .ok (.putfield 142, 3) := by decide +kernel
theorem dX10_row_15 : decode cX10_row 15 = .ok (.iload_n 1, 1) := by decide +kernel
theorem dX10_row_16 : decode cX10_row 16 = .ok (.ifCond .eq 16, 3) := by decide +kernel
theorem dX10_row_19 : decode cX10_row 19 = .ok (.aload_n 0, 1) := by decide +kernel
theorem dX10_row_20 : decode cX10_row 20 = .ok (.aload_n 0, 1) := by decide +kernel
theorem dX10_row_21 : decode cX10_row 21 = .ok (.getfield 36, 3) := by decide +kernel
theorem dX10_row_24 : decode cX10_row 24 = .ok (.iconst 0, 1) := by decide +kernel
theorem dX10_row_25 : decode cX10_row 25 = .ok (.iaload, 1) := by decide +kernel
theorem dX10_row_26 : decode cX10_row 26 = .ok (.invokevirtual 102, 3) := by decide +kernel
theorem dX10_row_29 : decode cX10_row 29 = .ok (.ifCond .ne 10, 3) := by decide +kernel
theorem dX10_row_32 : decode cX10_row 32 = .ok (.aload_n 0, 1) := by decide +kernel
theorem dX10_row_33 : decode cX10_row 33 = .ok (.bipush (-6), 2) := by decide +kernel
theorem dX10_row_35 : decode cX10_row 35 = .ok (.invokevirtual 87, 3) := by decide +kernel
theorem dX10_row_38 : decode cX10_row 38 = .ok (.ireturn, 1) := by decide +kernel
theorem dX10_row_39 : decode cX10_row 39 = .ok (.aload_n 0, 1) := by decide +kernel
theorem dX10_row_40 : decode cX10_row 40 = .ok (.iconst 0, 1) := by decide +kernel
theorem dX10_row_41 : decode cX10_row 41 = .ok (.putfield 145, 3) := by decide +kernel
theorem dX10_row_44 : decode cX10_row 44 = .ok (.iconst 0, 1) := by decide +kernel
theorem dX10_row_45 : decode cX10_row 45 = .ok (.istore_n 2, 1) := by decide +kernel
theorem dX10_row_46 : decode cX10_row 46 = .ok (.iconst 1, 1) := by decide +kernel
theorem dX10_row_47 : decode cX10_row 47 = .ok (.istore_n 3, 1) := by decide +kernel
theorem dX10_row_48 : decode cX10_row 48 = .ok (.iload_n 3, 1) := by decide +kernel
theorem dX10_row_49 : decode cX10_row 49 = .ok (.iload_n 1, 1) := by decide +kernel
theorem dX10_row_50 : decode cX10_row 50 = .ok (.if_icmp .ge 76, 3) := by decide +kernel
theorem dX10_row_53 : decode cX10_row 53 = .ok (.iload_n 3, 1) := by decide +kernel
theorem dX10_row_54 : decode cX10_row 54 = .ok (.iconst 5, 1) := by decide +kernel
theorem dX10_row_55 : decode cX10_row 55 = .ok (.if_icmp .ge 19, 3) := by decide +kernel
theorem dX10_row_58 : decode cX10_row 58 = .ok (.aload_n 0, 1) := by decide +kernel
theorem dX10_row_59 : decode cX10_row 59 = .ok (.getfield 36, 3) := by decide +kernel
theorem dX10_row_62 : decode cX10_row 62 = .ok (.iload_n 3, 1) := by decide +kernel
theorem dX10_row_63 : decode cX10_row 63 = .ok (.iaload, 1) := by decide +kernel
theorem dX10_row_64 : decode cX10_row 64 = .ok (.invokestatic 95, 3) := by decide +kernel
theorem dX10_row_67 : decode cX10_row 67 = .ok (.ifCond .eq 7, 3) := by decide +kernel
theorem dX10_row_70 : decode cX10_row 70 = .ok (.iconst 1, 1) := by decide +kernel
theorem dX10_row_71 : decode cX10_row 71 = .ok (.goto 4, 3) := by decide +kernel
theorem dX10_row_74 : decode cX10_row 74 = .ok (.iconst 0, 1) := by decide +kernel
theorem dX10_row_75 : decode cX10_row 75 = .ok (.istore 4, 2) := by decide +kernel
theorem dX10_row_77 : decode cX10_row 77 = .ok (.iload 4, 2) := by decide +kernel
theorem dX10_row_79 : decode cX10_row 79 = .ok (.ifCond .eq 31, 3) := by decide +kernel
theorem dX10_row_82 : decode cX10_row 82 = .ok (.aload_n 0, 1) := by decide +kernel
theorem dX10_row_83 : decode cX10_row 83 = .ok (.aload_n 0, 1) := by decide +kernel
theorem dX10_row_84 : decode cX10_row 84 = .ok (.getfield 36, 3) := by decide +kernel
theorem dX10_row_87 : decode cX10_row 87 = .ok (.iconst 0, 1) := by decide +kernel
theorem dX10_row_88 : decode cX10_row 88 = .ok (.iaload, 1) := by decide +kernel
theorem dX10_row_89 : decode cX10_row 89 = .ok (.iload_n 3, 1) := by decide +kernel
theorem dX10_row_90 : decode cX10_row 90 = .ok (.iconst 1, 1) := by decide +kernel
theorem dX10_row_91 : decode cX10_row 91 = .ok (.isub, 1) := by decide +kernel
theorem dX10_row_92 : decode cX10_row 92 = .ok (.aload_n 0, 1) := by decide +kernel
theorem dX10_row_93 : decode cX10_row 93 = .ok (.getfield 36, 3) := by decide +kernel
theorem dX10_row_96 : decode cX10_row 96 = .ok (.iload_n 3, 1) := by decide +kernel
theorem dX10_row_97 : decode cX10_row 97 = .ok (.iaload, 1) := by decide +kernel
theorem dX10_row_98 : decode cX10_row 98 = .ok (.invokevirtual 135, 3) := by decide +kernel
theorem dX10_row_101 : decode cX10_row 101 = .ok (.ifCond .ne 9, 3) := by decide +kernel
theorem dX10_row_104 : decode cX10_row 104 = .ok (.iinc 2 1, 3) := by decide +kernel
theorem dX10_row_107 : decode cX10_row 107 = .ok (.goto 13, 3) := by decide +kernel
theorem dX10_row_110 : decode cX10_row 110 = .ok (.aload_n 0, 1) := by decide +kernel
theorem dX10_row_111 : decode cX10_row 111 = .ok (.dup, 1) := by decide +kernel
theorem dX10_row_112 : decode cX10_row 112 = .ok (.getfield 145, 3) := by decide +kernel
theorem dX10_row_115 : decode cX10_row 115 = .ok (.iconst 1, 1) := by decide +kernel
theorem dX10_row_116 : decode cX10_row 116 = .ok (.iadd, 1) := by decide +kernel
theorem dX10_row_117 : decode cX10_row 117 = .ok (.putfield 145, 3) := by decide +kernel
theorem dX10_row_120 : decode cX10_row 120 = .ok (.iinc 3 1, 3) := by decide +kernel
theorem dX10_row_123 : decode cX10_row 123 = .ok (.goto (-75), 3) := by decide +kernel
theorem dX10_row_126 : decode cX10_row 126 = .ok (.aload_n 0, 1) := by decide +kernel
theorem dX10_row_127 : decode cX10_row 127 = .ok (.iload_n 2, 1) := by decide +kernel
theorem dX10_row_128 : decode cX10_row 128 = .ok (.invokevirtual 87, 3) := by decide +kernel
theorem dX10_row_131 : decode cX10_row 131 = .ok (.ireturn, 1) := by decide +kernel
theorem dX10_spilt_0 : decode cX10_spilt 0 = .ok (.aload_n 0, 1) := by decide +kernel
theorem dX10_spilt_1 : decode cX10_spilt 1 = .ok (.iconst 0, 1) := by decide +kernel
theorem dX10_spilt_2 : decode cX10_spilt 2 = .ok (.putfield 77, 3) := by decide +kernel
theorem dX10_spilt_5 : decode cX10_spilt 5 = .ok (.aload_n 0, 1) := by decide +kernel
theorem dX10_spilt_6 : decode cX10_spilt 6 = .ok (.getfield 145, 3) := by decide +kernel
theorem dX10_spilt_9 : decode cX10_spilt 9 = .ok (.ireturn, 1) := by decide +kernel
theorem dX10_four_0 : decode cX10_four 0 = .ok (.bipush 24, 2) := by decide +kernel
theorem dX10_four_2 : decode cX10_four 2 = .ok (.istore_n 2, 1) := by decide +kernel
theorem dX10_four_3 : decode cX10_four 3 = .ok (.iload_n 2, 1) := by decide +kernel
theorem dX10_four_4 : decode cX10_four 4 = .ok (.ifCond .lt 35, 3) := by decide +kernel
theorem dX10_four_7 : decode cX10_four 7 = .ok (.aload_n 0, 1) := by decide +kernel
theorem dX10_four_8 : decode cX10_four 8 = .ok (.getfield 36, 3) := by decide +kernel
theorem dX10_four_11 : decode cX10_four 11 = .ok (.aload_n 0, 1) := by decide +kernel
theorem dX10_four_12 : decode cX10_four 12 = .ok (.getfield 142, 3) := by decide +kernel
theorem dX10_four_15 : decode cX10_four 15 = .ok (.iload_n 1, 1) := by decide +kernel
theorem dX10_four_16 : decode cX10_four 16 = .ok (.iload_n 2, 1) := by decide +kernel
theorem dX10_four_17 : decode cX10_four 17 = .ok (.ishr, 1) := by decide +kernel
theorem dX10_four_18 : decode cX10_four 18 = .ok (.sipush 255, 3) := by decide +kernel
theorem dX10_four_21 : decode cX10_four 21 = .ok (.iand, 1) := by decide +kernel
theorem dX10_four_22 : decode cX10_four 22 = .ok (.iastore, 1) := by decide +kernel
theorem dX10_four_23 : decode cX10_four 23 = .ok (.aload_n 0, 1) := by decide +kernel
theorem dX10_four_24 : decode cX10_four 24 = .ok (.dup, 1) := by decide +kernel
theorem dX10_four_25 : decode cX10_four 25 = .ok (.getfield 142, 3) := by decide +kernel
theorem dX10_four_28 : decode cX10_four 28 = .ok (.iconst 1, 1) := by decide +kernel
theorem dX10_four_29 : decode cX10_four 29 = .ok (.iadd, 1) := by decide +kernel
theorem dX10_four_30 : decode cX10_four 30 = .ok (.putfield 142, 3) := by decide +kernel
theorem dX10_four_33 : decode cX10_four 33 = .ok (.iinc 2 (-8), 3) := by decide +kernel
theorem dX10_four_36 : decode cX10_four 36 = .ok (.goto (-33), 3) := by decide +kernel
theorem dX10_four_39 : decode cX10_four 39 = .ok (.return_, 1) := by decide +kernel
theorem dX10_feed_0 : decode cX10_feed 0 = .ok (.aload_n 0, 1) := by decide +kernel
theorem dX10_feed_1 : decode cX10_feed 1 = .ok (.iconst 0, 1) := by decide +kernel
theorem dX10_feed_2 : decode cX10_feed 2 = .ok (.putfield 77, 3) := by decide +kernel
theorem dX10_feed_5 : decode cX10_feed 5 = .ok (.aload_n 0, 1) := by decide +kernel
theorem dX10_feed_6 : decode cX10_feed 6 = .ok (.getfield 142, 3) := by decide +kernel
theorem dX10_feed_9 : decode cX10_feed 9 = .ok (.bipush 20, 2) := by decide +kernel
theorem dX10_feed_11 : decode cX10_feed 11 = .ok (.iadd, 1) := by decide +kernel
theorem dX10_feed_12 : decode cX10_feed 12 = .ok (.sipush 400, 3) := by decide +kernel
theorem dX10_feed_15 : decode cX10_feed 15 = .ok (.if_icmp .le 5, 3) := by decide +kernel
theorem dX10_feed_18 : decode cX10_feed 18 = .ok (.iconst (-1), 1) := by decide +kernel
theorem dX10_feed_19 : decode cX10_feed 19 = .ok (.ireturn, 1) := by decide +kernel
theorem dX10_feed_20 : decode cX10_feed 20 = .ok (.aload_n 0, 1) := by decide +kernel
theorem dX10_feed_21 : decode cX10_feed 21 = .ok (.iload_n 1, 1) := by decide +kernel
theorem dX10_feed_22 : decode cX10_feed 22 = .ok (.invokevirtual 148, 3) := by decide +kernel
theorem dX10_feed_25 : decode cX10_feed 25 = .ok (.aload_n 0, 1) := by decide +kernel
theorem dX10_feed_26 : decode cX10_feed 26 = .ok (.iload_n 2, 1) := by decide +kernel
theorem dX10_feed_27 : decode cX10_feed 27 = .ok (.invokevirtual 148, 3) := by decide +kernel
theorem dX10_feed_30 : decode cX10_feed 30 = .ok (.aload_n 0, 1) := by decide +kernel
theorem dX10_feed_31 : decode cX10_feed 31 = .ok (.iload_n 3, 1) := by decide +kernel
theorem dX10_feed_32 : decode cX10_feed 32 = .ok (.invokevirtual 148, 3) := by decide +kernel
theorem dX10_feed_35 : decode cX10_feed 35 = .ok (.aload_n 0, 1) := by decide +kernel
theorem dX10_feed_36 : decode cX10_feed 36 = .ok (.iload 4, 2) := by decide +kernel
theorem dX10_feed_38 : decode cX10_feed 38 = .ok (.invokevirtual 148, 3) := by decide +kernel
theorem dX10_feed_41 : decode cX10_feed 41 = .ok (.aload_n 0, 1) := by decide +kernel
theorem dX10_feed_42 : decode cX10_feed 42 = .ok (.iload 5, 2) := by decide +kernel
theorem dX10_feed_44 : decode cX10_feed 44 = .ok (.invokevirtual 148, 3) := by decide +kernel
theorem dX10_feed_47 : decode cX10_feed 47 = .ok (.aload_n 0, 1) := by decide +kernel
theorem dX10_feed_48 : decode cX10_feed 48 = .ok (.getfield 142, 3) := by decide +kernel
theorem dX10_feed_51 : decode cX10_feed 51 = .ok (.ireturn, 1) := by decide +kernel
theorem dX10_end_0 : decode cX10_end 0 = .ok (.aload_n 0, 1) := by decide +kernel
theorem dX10_end_1 : decode cX10_end 1 = .ok (.iconst 0, 1) := by decide +kernel
theorem dX10_end_2 : decode cX10_end 2 = .ok (.putfield 77, 3) := by decide +kernel
theorem dX10_end_5 : decode cX10_end 5 = .ok (.iload_n 1, 1) := by decide +kernel
theorem dX10_end_6 : decode cX10_end 6 = .ok (.ifCond .lt 11, 3) := by decide +kernel
theorem dX10_end_9 : decode cX10_end 9 = .ok (.iload_n 1, 1) := by decide +kernel
theorem dX10_end_10 : decode cX10_end 10 = .ok (.aload_n 0, 1) := by decide +kernel
theorem dX10_end_11 : decode cX10_end 11 = .ok (.getfield 142, 3) := by decide +kernel
theorem dX10_end_14 : decode cX10_end 14 = .ok (.if_icmp .le 5, 3) := by decide +kernel
theorem dX10_end_17 : decode cX10_end 17 = .ok (.iconst (-1), 1) := by decide +kernel
theorem dX10_end_18 : decode cX10_end 18 = .ok (.ireturn, 1) := by decide +kernel
theorem dX10_end_19 : decode cX10_end 19 = .ok (.aload_n 0, 1) := by decide +kernel
theorem dX10_end_20 : decode cX10_end 20 = .ok (.iload_n 1, 1) := by decide +kernel
theorem dX10_end_21 : decode cX10_end 21 = .ok (.putfield 142, 3) := by decide +kernel
theorem dX10_end_24 : decode cX10_end 24 = .ok (.iload_n 1, 1) := by decide +kernel
theorem dX10_end_25 : decode cX10_end 25 = .ok (.ireturn, 1) := by decide +kernel
theorem dX10_isSmall_0 : decode cX10_isSmall 0 = .ok (.iload_n 0, 1) := by decide +kernel
theorem dX10_isSmall_1 : decode cX10_isSmall 1 = .ok (.bipush 97, 2) := by decide +kernel
theorem dX10_isSmall_3 : decode cX10_isSmall 3 = .ok (.if_icmp .lt 13, 3) := by decide +kernel
theorem dX10_isSmall_6 : decode cX10_isSmall 6 = .ok (.iload_n 0, 1) := by decide +kernel
theorem dX10_isSmall_7 : decode cX10_isSmall 7 = .ok (.bipush 122, 2) := by decide +kernel
theorem dX10_isSmall_9 : decode cX10_isSmall 9 = .ok (.if_icmp .gt 7, 3) := by decide +kernel
theorem dX10_isSmall_12 : decode cX10_isSmall 12 = .ok (.iconst 1, 1) := by decide +kernel
theorem dX10_isSmall_13 : decode cX10_isSmall 13 = .ok (.goto 4, 3) := by decide +kernel
theorem dX10_isSmall_16 : decode cX10_isSmall 16 = .ok (.iconst 0, 1) := by decide +kernel
theorem dX10_isSmall_17 : decode cX10_isSmall 17 = .ok (.ireturn, 1) := by decide +kernel
theorem dX10_isDigit_0 : decode cX10_isDigit 0 = .ok (.iload_n 0, 1) := by decide +kernel
theorem dX10_isDigit_1 : decode cX10_isDigit 1 = .ok (.bipush 48, 2) := by decide +kernel
theorem dX10_isDigit_3 : decode cX10_isDigit 3 = .ok (.if_icmp .lt 13, 3) := by decide +kernel
theorem dX10_isDigit_6 : decode cX10_isDigit 6 = .ok (.iload_n 0, 1) := by decide +kernel
theorem dX10_isDigit_7 : decode cX10_isDigit 7 = .ok (.bipush 57, 2) := by decide +kernel
theorem dX10_isDigit_9 : decode cX10_isDigit 9 = .ok (.if_icmp .gt 7, 3) := by decide +kernel
theorem dX10_isDigit_12 : decode cX10_isDigit 12 = .ok (.iconst 1, 1) := by decide +kernel
theorem dX10_isDigit_13 : decode cX10_isDigit 13 = .ok (.goto 4, 3) := by decide +kernel
theorem dX10_isDigit_16 : decode cX10_isDigit 16 = .ok (.iconst 0, 1) := by decide +kernel
theorem dX10_isDigit_17 : decode cX10_isDigit 17 = .ok (.ireturn, 1) := by decide +kernel
theorem dX10_begin_0 : decode cX10_begin 0 = .ok (.aload_n 0, 1) := by decide +kernel
theorem dX10_begin_1 : decode cX10_begin 1 = .ok (.iconst 0, 1) := by decide +kernel
theorem dX10_begin_2 : decode cX10_begin 2 = .ok (.putfield 151, 3) := by decide +kernel
theorem dX10_begin_5 : decode cX10_begin 5 = .ok (.aload_n 0, 1) := by decide +kernel
theorem dX10_begin_6 : decode cX10_begin 6 = .ok (.iconst 0, 1) := by decide +kernel
theorem dX10_begin_7 : decode cX10_begin 7 = .ok (.putfield 154, 3) := by decide +kernel
theorem dX10_begin_10 : decode cX10_begin 10 = .ok (.aload_n 0, 1) := by decide +kernel
theorem dX10_begin_11 : decode cX10_begin 11 = .ok (.iconst (-1), 1) := by decide +kernel
theorem dX10_begin_12 : decode cX10_begin 12 = .ok (.putfield 39, 3) := by decide +kernel
theorem dX10_begin_15 : decode cX10_begin 15 = .ok (.aload_n 0, 1) := by decide +kernel
theorem dX10_begin_16 : decode cX10_begin 16 = .ok (.invokevirtual 158, 3) := by decide +kernel
theorem dX10_begin_19 : decode cX10_begin 19 = .ok (.return_, 1) := by decide +kernel
theorem dX10_next_0 : decode cX10_next 0 = .ok (.aload_n 0, 1) := by decide +kernel
theorem dX10_next_1 : decode cX10_next 1 = .ok (.aload_n 0, 1) := by decide +kernel
theorem dX10_next_2 : decode cX10_next 2 = .ok (.getfield 151, 3) := by decide +kernel
theorem dX10_next_5 : decode cX10_next 5 = .ok (.putfield 161, 3) := by decide +kernel
theorem dX10_next_8 : decode cX10_next 8 = .ok (.aload_n 0, 1) := by decide +kernel
theorem dX10_next_9 : decode cX10_next 9 = .ok (.getfield 161, 3) := by decide +kernel
theorem dX10_next_12 : decode cX10_next 12 = .ok (.aload_n 0, 1) := by decide +kernel
theorem dX10_next_13 : decode cX10_next 13 = .ok (.getfield 142, 3) := by decide +kernel
theorem dX10_next_16 : decode cX10_next 16 = .ok (.if_icmp .ge 30, 3) := by decide +kernel
theorem dX10_next_19 : decode cX10_next 19 = .ok (.aload_n 0, 1) := by decide +kernel
theorem dX10_next_20 : decode cX10_next 20 = .ok (.getfield 36, 3) := by decide +kernel
theorem dX10_next_23 : decode cX10_next 23 = .ok (.aload_n 0, 1) := by decide +kernel
theorem dX10_next_24 : decode cX10_next 24 = .ok (.getfield 161, 3) := by decide +kernel
theorem dX10_next_27 : decode cX10_next 27 = .ok (.iaload, 1) := by decide +kernel
theorem dX10_next_28 : decode cX10_next 28 = .ok (.bipush 32, 2) := by decide +kernel
theorem dX10_next_30 : decode cX10_next 30 = .ok (.if_icmp .ne 16, 3) := by decide +kernel
theorem dX10_next_33 : decode cX10_next 33 = .ok (.aload_n 0, 1) := by decide +kernel
theorem dX10_next_34 : decode cX10_next 34 = .ok (.dup, 1) := by decide +kernel
theorem dX10_next_35 : decode cX10_next 35 = .ok (.getfield 161, 3) := by decide +kernel
theorem dX10_next_38 : decode cX10_next 38 = .ok (.iconst 1, 1) := by decide +kernel
theorem dX10_next_39 : decode cX10_next 39 = .ok (.iadd, 1) := by decide +kernel
theorem dX10_next_40 : decode cX10_next 40 = .ok (.putfield 161, 3) := by decide +kernel
theorem dX10_next_43 : decode cX10_next 43 = .ok (.goto (-35), 3) := by decide +kernel
theorem dX10_next_46 : decode cX10_next 46 = .ok (.aload_n 0, 1) := by decide +kernel
theorem dX10_next_47 : decode cX10_next 47 = .ok (.aload_n 0, 1) := by decide +kernel
theorem dX10_next_48 : decode cX10_next 48 = .ok (.getfield 161, 3) := by decide +kernel
theorem dX10_next_51 : decode cX10_next 51 = .ok (.putfield 151, 3) := by decide +kernel
theorem dX10_next_54 : decode cX10_next 54 = .ok (.aload_n 0, 1) := by decide +kernel
theorem dX10_next_55 : decode cX10_next 55 = .ok (.lconst 0, 1) := by decide +kernel
theorem dX10_next_56 : decode cX10_next 56 = .ok (.putfield 164, 3) := by decide +kernel
theorem dX10_next_59 : decode cX10_next 59 = .ok (.aload_n 0, 1) := by decide +kernel
theorem dX10_next_60 : decode cX10_next 60 = .ok (.aload_n 0, 1) := by decide +kernel
theorem dX10_next_61 : decode cX10_next 61 = .ok (.getfield 161, 3) := by decide +kernel
theorem dX10_next_64 : decode cX10_next 64 = .ok (.aload_n 0, 1) := by decide +kernel
theorem dX10_next_65 : decode cX10_next 65 = .ok (.getfield 142, 3) := by decide +kernel
theorem dX10_next_68 : decode cX10_next 68 = .ok (.if_icmp .ne 7, 3) := by decide +kernel
theorem dX10_next_71 : decode cX10_next 71 = .ok (.iconst 0, 1) := by decide +kernel
theorem dX10_next_72 : decode cX10_next 72 = .ok (.goto 42, 3) := by decide +kernel
theorem dX10_next_75 : decode cX10_next 75 = .ok (.aload_n 0, 1) := by decide +kernel
theorem dX10_next_76 : decode cX10_next 76 = .ok (.getfield 36, 3) := by decide +kernel
theorem dX10_next_79 : decode cX10_next 79 = .ok (.aload_n 0, 1) := by decide +kernel
theorem dX10_next_80 : decode cX10_next 80 = .ok (.getfield 161, 3) := by decide +kernel
theorem dX10_next_83 : decode cX10_next 83 = .ok (.iaload, 1) := by decide +kernel
theorem dX10_next_84 : decode cX10_next 84 = .ok (.invokestatic 168, 3) := by decide +kernel
theorem dX10_next_87 : decode cX10_next 87 = .ok (.ifCond .eq 7, 3) := by decide +kernel
theorem dX10_next_90 : decode cX10_next 90 = .ok (.iconst 1, 1) := by decide +kernel
theorem dX10_next_91 : decode cX10_next 91 = .ok (.goto 23, 3) := by decide +kernel
theorem dX10_next_94 : decode cX10_next 94 = .ok (.aload_n 0, 1) := by decide +kernel
theorem dX10_next_95 : decode cX10_next 95 = .ok (.getfield 36, 3) := by decide +kernel
theorem dX10_next_98 : decode cX10_next 98 = .ok (.aload_n 0, 1) := by decide +kernel
theorem dX10_next_99 : decode cX10_next 99 = .ok (.getfield 161, 3) := by decide +kernel
theorem dX10_next_102 : decode cX10_next 102 = .ok (.iaload, 1) := by decide +kernel
theorem dX10_next_103 : decode cX10_next 103 = .ok (.invokestatic 171, 3) := by decide +kernel
theorem dX10_next_106 : decode cX10_next 106 = .ok (.ifCond .eq 7, 3) := by decide +kernel
theorem dX10_next_109 : decode cX10_next 109 = .ok (.iconst 2, 1) := by decide +kernel
theorem dX10_next_110 : decode cX10_next 110 = .ok (.goto 4, 3) := by decide +kernel
theorem dX10_next_113 : decode cX10_next 113 = .ok (.iconst 3, 1) := by decide +kernel
theorem dX10_next_114 : decode cX10_next 114 = .ok (.putfield 174, 3) := by decide +kernel
theorem dX10_next_117 : decode cX10_next 117 = .ok (.aload_n 0, 1) := by decide +kernel
theorem dX10_next_118 : decode cX10_next 118 = .ok (.getfield 174, 3) := by decide +kernel
theorem dX10_next_121 : decode cX10_next 121 = .ok (.iconst 3, 1) := by decide +kernel
theorem dX10_next_122 : decode cX10_next 122 = .ok (.if_icmp .ne 27, 3) := by decide +kernel
theorem dX10_next_125 : decode cX10_next 125 = .ok (.aload_n 0, 1) := by decide +kernel
theorem dX10_next_126 : decode cX10_next 126 = .ok (.aload_n 0, 1) := by decide +kernel
theorem dX10_next_127 : decode cX10_next 127 = .ok (.getfield 36, 3) := by decide +kernel
theorem dX10_next_130 : decode cX10_next 130 = .ok (.aload_n 0, 1) := by decide +kernel
theorem dX10_next_131 : decode cX10_next 131 = .ok (.getfield 161, 3) := by decide +kernel
theorem dX10_next_134 : decode cX10_next 134 = .ok (.iaload, 1) := by decide +kernel
theorem dX10_next_135 : decode cX10_next 135 = .ok (.i2l, 1) := by decide +kernel
theorem dX10_next_136 : decode cX10_next 136 = .ok (.putfield 164, 3) := by decide +kernel
theorem dX10_next_139 : decode cX10_next 139 = .ok (.aload_n 0, 1) := by decide +kernel
theorem dX10_next_140 : decode cX10_next 140 = .ok (.dup, 1) := by decide +kernel
theorem dX10_next_141 : decode cX10_next 141 = .ok (.getfield 151, 3) := by decide +kernel
theorem dX10_next_144 : decode cX10_next 144 = .ok (.iconst 1, 1) := by decide +kernel
theorem dX10_next_145 : decode cX10_next 145 = .ok (.iadd, 1) := by decide +kernel
theorem dX10_next_146 : decode cX10_next 146 = .ok (.putfield 151, 3) := by decide +kernel
theorem dX10_next_149 : decode cX10_next 149 = .ok (.aload_n 0, 1) := by decide +kernel
theorem dX10_next_150 : decode cX10_next 150 = .ok (.getfield 174, 3) := by decide +kernel
theorem dX10_next_153 : decode cX10_next 153 = .ok (.iconst 1, 1) := by decide +kernel
theorem dX10_next_154 : decode cX10_next 154 = .ok (.if_icmp .ne 89, 3) := by decide +kernel
theorem dX10_next_157 : decode cX10_next 157 = .ok (.aload_n 0, 1) := by decide +kernel
theorem dX10_next_158 : decode cX10_next 158 = .ok (.getfield 151, 3) := by decide +kernel
theorem dX10_next_161 : decode cX10_next 161 = .ok (.aload_n 0, 1) := by decide +kernel
theorem dX10_next_162 : decode cX10_next 162 = .ok (.getfield 142, 3) := by decide +kernel
theorem dX10_next_165 : decode cX10_next 165 = .ok (.if_icmp .ge 78, 3) := by decide +kernel
theorem dX10_next_168 : decode cX10_next 168 = .ok (.aload_n 0, 1) := by decide +kernel
theorem dX10_next_169 : decode cX10_next 169 = .ok (.getfield 36, 3) := by decide +kernel
theorem dX10_next_172 : decode cX10_next 172 = .ok (.aload_n 0, 1) := by decide +kernel
theorem dX10_next_173 : decode cX10_next 173 = .ok (.getfield 151, 3) := by decide +kernel
theorem dX10_next_176 : decode cX10_next 176 = .ok (.iaload, 1) := by decide +kernel
theorem dX10_next_177 : decode cX10_next 177 = .ok (.invokestatic 168, 3) := by decide +kernel
theorem dX10_next_180 : decode cX10_next 180 = .ok (.ifCond .eq 63, 3) := by decide +kernel
theorem dX10_next_183 : decode cX10_next 183 = .ok (.aload_n 0, 1) := by decide +kernel
theorem dX10_next_184 : decode cX10_next 184 = .ok (.aload_n 0, 1) := by decide +kernel
theorem dX10_next_185 : decode cX10_next 185 = .ok (.getfield 151, 3) := by decide +kernel
theorem dX10_next_188 : decode cX10_next 188 = .ok (.aload_n 0, 1) := by decide +kernel
theorem dX10_next_189 : decode cX10_next 189 = .ok (.getfield 161, 3) := by decide +kernel
theorem dX10_next_192 : decode cX10_next 192 = .ok (.isub, 1) := by decide +kernel
theorem dX10_next_193 : decode cX10_next 193 = .ok (.bipush 10, 2) := by decide +kernel
theorem dX10_next_195 : decode cX10_next 195 = .ok (.if_icmp .ge 29, 3) := by decide +kernel
theorem dX10_next_198 : decode cX10_next 198 = .ok (.aload_n 0, 1) := by decide +kernel
theorem dX10_next_199 : decode cX10_next 199 = .ok (.getfield 164, 3) := by decide +kernel
theorem dX10_next_202 : decode cX10_next 202 = .ok (.ldc2_w 177, 3) := by decide +kernel
theorem dX10_next_205 : decode cX10_next 205 = .ok (.lmul, 1) := by decide +kernel
theorem dX10_next_206 : decode cX10_next 206 = .ok (.aload_n 0, 1) := by decide +kernel
theorem dX10_next_207 : decode cX10_next 207 = .ok (.getfield 36, 3) := by decide +kernel
theorem dX10_next_210 : decode cX10_next 210 = .ok (.aload_n 0, 1) := by decide +kernel
theorem dX10_next_211 : decode cX10_next 211 = .ok (.getfield 151, 3) := by decide +kernel
theorem dX10_next_214 : decode cX10_next 214 = .ok (.iaload, 1) := by decide +kernel
theorem dX10_next_215 : decode cX10_next 215 = .ok (.i2l, 1) := by decide +kernel
theorem dX10_next_216 : decode cX10_next 216 = .ok (.ladd, 1) := by decide +kernel
theorem dX10_next_217 : decode cX10_next 217 = .ok (.ldc2_w 179, 3) := by decide +kernel
theorem dX10_next_220 : decode cX10_next 220 = .ok (.lsub, 1) := by decide +kernel
theorem dX10_next_221 : decode cX10_next 221 = .ok (.goto 6, 3) := by decide +kernel
theorem dX10_next_224 : decode cX10_next 224 = .ok (.ldc2_w 108, 3) := by decide +kernel
theorem dX10_next_227 : decode cX10_next 227 = .ok (.putfield 164, 3) := by decide +kernel
theorem dX10_next_230 : decode cX10_next 230 = .ok (.aload_n 0, 1) := by decide +kernel
theorem dX10_next_231 : decode cX10_next 231 = .ok (.dup, 1) := by decide +kernel
theorem dX10_next_232 : decode cX10_next 232 = .ok (.getfield 151, 3) := by decide +kernel
theorem dX10_next_235 : decode cX10_next 235 = .ok (.iconst 1, 1) := by decide +kernel
theorem dX10_next_236 : decode cX10_next 236 = .ok (.iadd, 1) := by decide +kernel
theorem dX10_next_237 : decode cX10_next 237 = .ok (.putfield 151, 3) := by decide +kernel
theorem dX10_next_240 : decode cX10_next 240 = .ok (.goto (-91), 3) := by decide +kernel
theorem dX10_next_243 : decode cX10_next 243 = .ok (.aload_n 0, 1) := by decide +kernel
theorem dX10_next_244 : decode cX10_next 244 = .ok (.getfield 174, 3) := by decide +kernel
theorem dX10_next_247 : decode cX10_next 247 = .ok (.iconst 2, 1) := by decide +kernel
theorem dX10_next_248 : decode cX10_next 248 = .ok (.if_icmp .ne 87, 3) := by decide +kernel
theorem dX10_next_251 : decode cX10_next 251 = .ok (.aload_n 0, 1) := by decide +kernel
theorem dX10_next_252 : decode cX10_next 252 = .ok (.getfield 151, 3) := by decide +kernel
theorem dX10_next_255 : decode cX10_next 255 = .ok (.aload_n 0, 1) := by decide +kernel
theorem dX10_next_256 : decode cX10_next 256 = .ok (.getfield 142, 3) := by decide +kernel
theorem dX10_next_259 : decode cX10_next 259 = .ok (.if_icmp .ge 76, 3) := by decide +kernel
theorem dX10_next_262 : decode cX10_next 262 = .ok (.aload_n 0, 1) := by decide +kernel
theorem dX10_next_263 : decode cX10_next 263 = .ok (.getfield 36, 3) := by decide +kernel
theorem dX10_next_266 : decode cX10_next 266 = .ok (.aload_n 0, 1) := by decide +kernel
theorem dX10_next_267 : decode cX10_next 267 = .ok (.getfield 151, 3) := by decide +kernel
theorem dX10_next_270 : decode cX10_next 270 = .ok (.iaload, 1) := by decide +kernel
theorem dX10_next_271 : decode cX10_next 271 = .ok (.invokestatic 171, 3) := by decide +kernel
theorem dX10_next_274 : decode cX10_next 274 = .ok (.ifCond .eq 61, 3) := by decide +kernel
theorem dX10_next_277 : decode cX10_next 277 = .ok (.aload_n 0, 1) := by decide +kernel
theorem dX10_next_278 : decode cX10_next 278 = .ok (.aload_n 0, 1) := by decide +kernel
theorem dX10_next_279 : decode cX10_next 279 = .ok (.getfield 164, 3) := by decide +kernel
theorem dX10_next_282 : decode cX10_next 282 = .ok (.ldc2_w 181, 3) := by decide +kernel
theorem dX10_next_285 : decode cX10_next 285 = .ok (.lcmp, 1) := by decide +kernel
theorem dX10_next_286 : decode cX10_next 286 = .ok (.ifCond .le 10, 3) := by decide +kernel
theorem dX10_next_289 : decode cX10_next 289 = .ok (.aload_n 0, 1) := by decide +kernel
theorem dX10_next_290 : decode cX10_next 290 = .ok (.getfield 164, 3) := by decide +kernel
theorem dX10_next_293 : decode cX10_next 293 = .ok (.goto 26, 3) := by decide +kernel
theorem dX10_next_296 : decode cX10_next 296 = .ok (.aload_n 0, 1) := by decide +kernel
theorem dX10_next_297 : decode cX10_next 297 = .ok (.getfield 164, 3) := by decide +kernel
theorem dX10_next_300 : decode cX10_next 300 = .ok (.ldc2_w 183, 3) := by decide +kernel
theorem dX10_next_303 : decode cX10_next 303 = .ok (.lmul, 1) := by decide +kernel
theorem dX10_next_304 : decode cX10_next 304 = .ok (.aload_n 0, 1) := by decide +kernel
theorem dX10_next_305 : decode cX10_next 305 = .ok (.getfield 36, 3) := by decide +kernel
theorem dX10_next_308 : decode cX10_next 308 = .ok (.aload_n 0, 1) := by decide +kernel
theorem dX10_next_309 : decode cX10_next 309 = .ok (.getfield 151, 3) := by decide +kernel
theorem dX10_next_312 : decode cX10_next 312 = .ok (.iaload, 1) := by decide +kernel
theorem dX10_next_313 : decode cX10_next 313 = .ok (.i2l, 1) := by decide +kernel
theorem dX10_next_314 : decode cX10_next 314 = .ok (.ladd, 1) := by decide +kernel
theorem dX10_next_315 : decode cX10_next 315 = .ok (.ldc2_w 185, 3) := by decide +kernel
theorem dX10_next_318 : decode cX10_next 318 = .ok (.lsub, 1) := by decide +kernel
theorem dX10_next_319 : decode cX10_next 319 = .ok (.putfield 164, 3) := by decide +kernel
theorem dX10_next_322 : decode cX10_next 322 = .ok (.aload_n 0, 1) := by decide +kernel
theorem dX10_next_323 : decode cX10_next 323 = .ok (.dup, 1) := by decide +kernel
theorem dX10_next_324 : decode cX10_next 324 = .ok (.getfield 151, 3) := by decide +kernel
theorem dX10_next_327 : decode cX10_next 327 = .ok (.iconst 1, 1) := by decide +kernel
theorem dX10_next_328 : decode cX10_next 328 = .ok (.iadd, 1) := by decide +kernel
theorem dX10_next_329 : decode cX10_next 329 = .ok (.putfield 151, 3) := by decide +kernel
theorem dX10_next_332 : decode cX10_next 332 = .ok (.goto (-89), 3) := by decide +kernel
theorem dX10_next_335 : decode cX10_next 335 = .ok (.return_, 1) := by decide +kernel
theorem dX10_isWord_0 : decode cX10_isWord 0 = .ok (.aload_n 0, 1) := by decide +kernel
theorem dX10_isWord_1 : decode cX10_isWord 1 = .ok (.getfield 174, 3) := by decide +kernel
theorem dX10_isWord_4 : decode cX10_isWord 4 = .ok (.iconst 1, 1) := by decide +kernel
theorem dX10_isWord_5 : decode cX10_isWord 5 = .ok (.if_icmp .ne 16, 3) := by decide +kernel
theorem dX10_isWord_8 : decode cX10_isWord 8 = .ok (.aload_n 0, 1) := by decide +kernel
theorem dX10_isWord_9 : decode cX10_isWord 9 = .ok (.getfield 164, 3) := by decide +kernel
theorem dX10_isWord_12 : decode cX10_isWord 12 = .ok (.lload_n 1, 1) := by decide +kernel
theorem dX10_isWord_13 : decode cX10_isWord 13 = .ok (.lcmp, 1) := by decide +kernel
theorem dX10_isWord_14 : decode cX10_isWord 14 = .ok (.ifCond .ne 7, 3) := by decide +kernel
theorem dX10_isWord_17 : decode cX10_isWord 17 = .ok (.iconst 1, 1) := by decide +kernel
theorem dX10_isWord_18 : decode cX10_isWord 18 = .ok (.goto 4, 3) := by decide +kernel
theorem dX10_isWord_21 : decode cX10_isWord 21 = .ok (.iconst 0, 1) := by decide +kernel
theorem dX10_isWord_22 : decode cX10_isWord 22 = .ok (.ireturn, 1) := by decide +kernel
theorem dX10_isSign_0 : decode cX10_isSign 0 = .ok (.aload_n 0, 1) := by decide +kernel
theorem dX10_isSign_1 : decode cX10_isSign 1 = .ok (.getfield 174, 3) := by decide +kernel
theorem dX10_isSign_4 : decode cX10_isSign 4 = .ok (.iconst 3, 1) := by decide +kernel
theorem dX10_isSign_5 : decode cX10_isSign 5 = .ok (.if_icmp .ne 17, 3) := by decide +kernel
theorem dX10_isSign_8 : decode cX10_isSign 8 = .ok (.aload_n 0, 1) := by decide +kernel
theorem dX10_isSign_9 : decode cX10_isSign 9 = .ok (.getfield 164, 3) := by decide +kernel
theorem dX10_isSign_12 : decode cX10_isSign 12 = .ok (.iload_n 1, 1) := by decide +kernel
theorem dX10_isSign_13 : decode cX10_isSign 13 = .ok (.i2l, 1) := by decide +kernel
theorem dX10_isSign_14 : decode cX10_isSign 14 = .ok (.lcmp, 1) := by decide +kernel
theorem dX10_isSign_15 : decode cX10_isSign 15 = .ok (.ifCond .ne 7, 3) := by decide +kernel
theorem dX10_isSign_18 : decode cX10_isSign 18 = .ok (.iconst 1, 1) := by decide +kernel
theorem dX10_isSign_19 : decode cX10_isSign 19 = .ok (.goto 4, 3) := by decide +kernel
theorem dX10_isSign_22 : decode cX10_isSign 22 = .ok (.iconst 0, 1) := by decide +kernel
theorem dX10_isSign_23 : decode cX10_isSign 23 = .ok (.ireturn, 1) := by decide +kernel
theorem dX10_must_0 : decode cX10_must 0 = .ok (.aload_n 0, 1) := by decide +kernel
theorem dX10_must_1 : decode cX10_must 1 = .ok (.getfield 154, 3) := by decide +kernel
theorem dX10_must_4 : decode cX10_must 4 = .ok (.ifCond .ne 20, 3) := by decide +kernel
theorem dX10_must_7 : decode cX10_must 7 = .ok (.iload_n 1, 1) := by decide +kernel
theorem dX10_must_8 : decode cX10_must 8 = .ok (.ifCond .ne 16, 3) := by decide +kernel
theorem dX10_must_11 : decode cX10_must 11 = .ok (.aload_n 0, 1) := by decide +kernel
theorem dX10_must_12 : decode cX10_must 12 = .ok (.iconst 1, 1) := by decide +kernel
theorem dX10_must_13 : decode cX10_must 13 = .ok (.putfield 154, 3) := by decide +kernel
theorem dX10_must_16 : decode cX10_must 16 = .ok (.aload_n 0, 1) := by decide +kernel
theorem dX10_must_17 : decode cX10_must 17 = .ok (.aload_n 0, 1) := by decide +kernel
theorem dX10_must_18 : decode cX10_must 18 = .ok (.getfield 161, 3) := by decide +kernel
theorem dX10_must_21 : decode cX10_must 21 = .ok (.putfield 39, 3) := by decide +kernel
theorem dX10_must_24 : decode cX10_must 24 = .ok (.aload_n 0, 1) := by decide +kernel
theorem dX10_must_25 : decode cX10_must 25 = .ok (.getfield 154, 3) := by decide +kernel
theorem dX10_must_28 : decode cX10_must 28 = .ok (.ifCond .ne 7, 3) := by decide +kernel
theorem dX10_must_31 : decode cX10_must 31 = .ok (.aload_n 0, 1) := by decide +kernel
theorem dX10_must_32 : decode cX10_must 32 = .ok (.invokevirtual 158, 3) := by decide +kernel
theorem dX10_must_35 : decode cX10_must 35 = .ok (.return_, 1) := by decide +kernel
theorem dX10_fault_0 : decode cX10_fault 0 = .ok (.aload_n 0, 1) := by decide +kernel
theorem dX10_fault_1 : decode cX10_fault 1 = .ok (.iconst 0, 1) := by decide +kernel
theorem dX10_fault_2 : decode cX10_fault 2 = .ok (.putfield 77, 3) := by decide +kernel
theorem dX10_fault_5 : decode cX10_fault 5 = .ok (.aload_n 0, 1) := by decide +kernel
theorem dX10_fault_6 : decode cX10_fault 6 = .ok (.getfield 39, 3) := by decide +kernel
theorem dX10_fault_9 : decode cX10_fault 9 = .ok (.ireturn, 1) := by decide +kernel
theorem dX10_emit_0 : decode cX10_emit 0 = .ok (.aload_n 0, 1) := by decide +kernel
theorem dX10_emit_1 : decode cX10_emit 1 = .ok (.getfield 46, 3) := by decide +kernel
theorem dX10_emit_4 : decode cX10_emit 4 = .ok (.aload_n 0, 1) := by decide +kernel
theorem dX10_emit_5 : decode cX10_emit 5 = .ok (.getfield 191, 3) := by decide +kernel
theorem dX10_emit_8 : decode cX10_emit 8 = .ok (.iload_n 1, 1) := by decide +kernel
theorem dX10_emit_9 : decode cX10_emit 9 = .ok (.iastore, 1) := by decide +kernel
theorem dX10_emit_10 : decode cX10_emit 10 = .ok (.aload_n 0, 1) := by decide +kernel
theorem dX10_emit_11 : decode cX10_emit 11 = .ok (.getfield 49, 3) := by decide +kernel
theorem dX10_emit_14 : decode cX10_emit 14 = .ok (.aload_n 0, 1) := by decide +kernel
theorem dX10_emit_15 : decode cX10_emit 15 = .ok (.getfield 191, 3) := by decide +kernel
theorem dX10_emit_18 : decode cX10_emit 18 = .ok (.iload_n 2, 1) := by decide +kernel
theorem dX10_emit_19 : decode cX10_emit 19 = .ok (.iastore, 1) := by decide +kernel
theorem dX10_emit_20 : decode cX10_emit 20 = .ok (.aload_n 0, 1) := by decide +kernel
theorem dX10_emit_21 : decode cX10_emit 21 = .ok (.dup, 1) := by decide +kernel
theorem dX10_emit_22 : decode cX10_emit 22 = .ok (.getfield 191, 3) := by decide +kernel
theorem dX10_emit_25 : decode cX10_emit 25 = .ok (.iconst 1, 1) := by decide +kernel
theorem dX10_emit_26 : decode cX10_emit 26 = .ok (.iadd, 1) := by decide +kernel
theorem dX10_emit_27 : decode cX10_emit 27 = .ok (.putfield 191, 3) := by decide +kernel
theorem dX10_emit_30 : decode cX10_emit 30 = .ok (.return_, 1) := by decide +kernel
theorem dX10_push_0 : decode cX10_push 0 = .ok (.aload_n 0, 1) := by decide +kernel
theorem dX10_push_1 : decode cX10_push 1 = .ok (.getfield 52, 3) := by decide +kernel
theorem dX10_push_4 : decode cX10_push 4 = .ok (.aload_n 0, 1) := by decide +kernel
theorem dX10_push_5 : decode cX10_push 5 = .ok (.getfield 194, 3) := by decide +kernel
theorem dX10_push_8 : decode cX10_push 8 = .ok (.iload_n 1, 1) := by decide +kernel
theorem dX10_push_9 : decode cX10_push 9 = .ok (.iastore, 1) := by decide +kernel
theorem dX10_push_10 : decode cX10_push 10 = .ok (.aload_n 0, 1) := by decide +kernel
theorem dX10_push_11 : decode cX10_push 11 = .ok (.getfield 55, 3) := by decide +kernel
theorem dX10_push_14 : decode cX10_push 14 = .ok (.aload_n 0, 1) := by decide +kernel
theorem dX10_push_15 : decode cX10_push 15 = .ok (.getfield 194, 3) := by decide +kernel
theorem dX10_push_18 : decode cX10_push 18 = .ok (.iload_n 2, 1) := by decide +kernel
theorem dX10_push_19 : decode cX10_push 19 = .ok (.iastore, 1) := by decide +kernel
theorem dX10_push_20 : decode cX10_push 20 = .ok (.aload_n 0, 1) := by decide +kernel
theorem dX10_push_21 : decode cX10_push 21 = .ok (.dup, 1) := by decide +kernel
theorem dX10_push_22 : decode cX10_push 22 = .ok (.getfield 194, 3) := by decide +kernel
theorem dX10_push_25 : decode cX10_push 25 = .ok (.iconst 1, 1) := by decide +kernel
theorem dX10_push_26 : decode cX10_push 26 = .ok (.iadd, 1) := by decide +kernel
theorem dX10_push_27 : decode cX10_push 27 = .ok (.putfield 194, 3) := by decide +kernel
theorem dX10_push_30 : decode cX10_push 30 = .ok (.return_, 1) := by decide +kernel
theorem dX10_binds_0 : decode cX10_binds 0 = .ok (.iload_n 0, 1) := by decide +kernel
theorem dX10_binds_1 : decode cX10_binds 1 = .ok (.bipush 30, 2) := by decide +kernel
theorem dX10_binds_3 : decode cX10_binds 3 = .ok (.if_icmp .lt 7, 3) := by decide +kernel
theorem dX10_binds_6 : decode cX10_binds 6 = .ok (.iconst 0, 1) := by decide +kernel
theorem dX10_binds_7 : decode cX10_binds 7 = .ok (.goto 55, 3) := by decide +kernel
theorem dX10_binds_10 : decode cX10_binds 10 = .ok (.iload_n 0, 1) := by decide +kernel
theorem dX10_binds_11 : decode cX10_binds 11 = .ok (.bipush 29, 2) := by decide +kernel
theorem dX10_binds_13 : decode cX10_binds 13 = .ok (.if_icmp .ne 7, 3) := by decide +kernel
theorem dX10_binds_16 : decode cX10_binds 16 = .ok (.iconst 1, 1) := by decide +kernel
theorem dX10_binds_17 : decode cX10_binds 17 = .ok (.goto 45, 3) := by decide +kernel
theorem dX10_binds_20 : decode cX10_binds 20 = .ok (.iload_n 0, 1) := by decide +kernel
theorem dX10_binds_21 : decode cX10_binds 21 = .ok (.bipush 28, 2) := by decide +kernel
theorem dX10_binds_23 : decode cX10_binds 23 = .ok (.if_icmp .ne 7, 3) := by decide +kernel
theorem dX10_binds_26 : decode cX10_binds 26 = .ok (.iconst 2, 1) := by decide +kernel
theorem dX10_binds_27 : decode cX10_binds 27 = .ok (.goto 35, 3) := by decide +kernel
theorem dX10_binds_30 : decode cX10_binds 30 = .ok (.iload_n 0, 1) := by decide +kernel
theorem dX10_binds_31 : decode cX10_binds 31 = .ok (.bipush 27, 2) := by decide +kernel
theorem dX10_binds_33 : decode cX10_binds 33 = .ok (.if_icmp .ne 7, 3) := by decide +kernel
theorem dX10_binds_36 : decode cX10_binds 36 = .ok (.iconst 3, 1) := by decide +kernel
theorem dX10_binds_37 : decode cX10_binds 37 = .ok (.goto 25, 3) := by decide +kernel
theorem dX10_binds_40 : decode cX10_binds 40 = .ok (.iload_n 0, 1) := by decide +kernel
theorem dX10_binds_41 : decode cX10_binds 41 = .ok (.bipush 24, 2) := by decide +kernel
theorem dX10_binds_43 : decode cX10_binds 43 = .ok (.if_icmp .lt 7, 3) := by decide +kernel
theorem dX10_binds_46 : decode cX10_binds 46 = .ok (.iconst 4, 1) := by decide +kernel
theorem dX10_binds_47 : decode cX10_binds 47 = .ok (.goto 15, 3) := by decide +kernel
theorem dX10_binds_50 : decode cX10_binds 50 = .ok (.iload_n 0, 1) := by decide +kernel
theorem dX10_binds_51 : decode cX10_binds 51 = .ok (.bipush 22, 2) := by decide +kernel
theorem dX10_binds_53 : decode cX10_binds 53 = .ok (.if_icmp .lt 8, 3) := by decide +kernel
theorem dX10_binds_56 : decode cX10_binds 56 = .ok (.bipush 6, 2) := by decide +kernel
theorem dX10_binds_58 : decode cX10_binds 58 = .ok (.goto 4, 3) := by decide +kernel
theorem dX10_binds_61 : decode cX10_binds 61 = .ok (.iconst 5, 1) := by decide +kernel
theorem dX10_binds_62 : decode cX10_binds 62 = .ok (.ireturn, 1) := by decide +kernel
theorem dX10_settle_0 : decode cX10_settle 0 = .ok (.aload_n 0, 1) := by decide +kernel
theorem dX10_settle_1 : decode cX10_settle 1 = .ok (.getfield 194, 3) := by decide +kernel
theorem dX10_settle_4 : decode cX10_settle 4 = .ok (.ifCond .le 97, 3) := by decide +kernel
theorem dX10_settle_7 : decode cX10_settle 7 = .ok (.aload_n 0, 1) := by decide +kernel
theorem dX10_settle_8 : decode cX10_settle 8 = .ok (.getfield 52, 3) := by decide +kernel
theorem dX10_settle_11 : decode cX10_settle 11 = .ok (.aload_n 0, 1) := by decide +kernel
theorem dX10_settle_12 : decode cX10_settle 12 = .ok (.getfield 194, 3) := by decide +kernel
theorem dX10_settle_15 : decode cX10_settle 15 = .ok (.iconst 1, 1) := by decide +kernel
theorem dX10_settle_16 : decode cX10_settle 16 = .ok (.isub, 1) := by decide +kernel
theorem dX10_settle_17 : decode cX10_settle 17 = .ok (.iaload, 1) := by decide +kernel
theorem dX10_settle_18 : decode cX10_settle 18 = .ok (.invokestatic 197, 3) := by decide +kernel
theorem dX10_settle_21 : decode cX10_settle 21 = .ok (.iload_n 1, 1) := by decide +kernel
theorem dX10_settle_22 : decode cX10_settle 22 = .ok (.if_icmp .lt 79, 3) := by decide +kernel
theorem dX10_settle_25 : decode cX10_settle 25 = .ok (.aload_n 0, 1) := by decide +kernel
theorem dX10_settle_26 : decode cX10_settle 26 = .ok (.dup, 1) := by decide +kernel
theorem dX10_settle_27 : decode cX10_settle 27 = .ok (.getfield 194, 3) := by decide +kernel
theorem dX10_settle_30 : decode cX10_settle 30 = .ok (.iconst 1, 1) := by decide +kernel
theorem dX10_settle_31 : decode cX10_settle 31 = .ok (.isub, 1) := by decide +kernel
theorem dX10_settle_32 : decode cX10_settle 32 = .ok (.putfield 194, 3) := by decide +kernel
theorem dX10_settle_35 : decode cX10_settle 35 = .ok (.aload_n 0, 1) := by decide +kernel
theorem dX10_settle_36 : decode cX10_settle 36 = .ok (.getfield 52, 3) := by decide +kernel
theorem dX10_settle_39 : decode cX10_settle 39 = .ok (.aload_n 0, 1) := by decide +kernel
theorem dX10_settle_40 : decode cX10_settle 40 = .ok (.getfield 194, 3) := by decide +kernel
theorem dX10_settle_43 : decode cX10_settle 43 = .ok (.iaload, 1) := by decide +kernel
theorem dX10_settle_44 : decode cX10_settle 44 = .ok (.bipush 28, 2) := by decide +kernel
theorem dX10_settle_46 : decode cX10_settle 46 = .ok (.if_icmp .eq 17, 3) := by decide +kernel
theorem dX10_settle_49 : decode cX10_settle 49 = .ok (.aload_n 0, 1) := by decide +kernel
theorem dX10_settle_50 : decode cX10_settle 50 = .ok (.getfield 52, 3) := by decide +kernel
theorem dX10_settle_53 : decode cX10_settle 53 = .ok (.aload_n 0, 1) := by decide +kernel
theorem dX10_settle_54 : decode cX10_settle 54 = .ok (.getfield 194, 3) := by decide +kernel
theorem dX10_settle_57 : decode cX10_settle 57 = .ok (.iaload, 1) := by decide +kernel
theorem dX10_settle_58 : decode cX10_settle 58 = .ok (.bipush 29, 2) := by decide +kernel
theorem dX10_settle_60 : decode cX10_settle 60 = .ok (.if_icmp .ne 24, 3) := by decide +kernel
theorem dX10_settle_63 : decode cX10_settle 63 = .ok (.aload_n 0, 1) := by decide +kernel
theorem dX10_settle_64 : decode cX10_settle 64 = .ok (.getfield 49, 3) := by decide +kernel
theorem dX10_settle_67 : decode cX10_settle 67 = .ok (.aload_n 0, 1) := by decide +kernel
theorem dX10_settle_68 : decode cX10_settle 68 = .ok (.getfield 55, 3) := by decide +kernel
theorem dX10_settle_71 : decode cX10_settle 71 = .ok (.aload_n 0, 1) := by decide +kernel
theorem dX10_settle_72 : decode cX10_settle 72 = .ok (.getfield 194, 3) := by decide +kernel
theorem dX10_settle_75 : decode cX10_settle 75 = .ok (.iaload, 1) := by decide +kernel
theorem dX10_settle_76 : decode cX10_settle 76 = .ok (.aload_n 0, 1) := by decide +kernel
theorem dX10_settle_77 : decode cX10_settle 77 = .ok (.getfield 191, 3) := by decide +kernel
theorem dX10_settle_80 : decode cX10_settle 80 = .ok (.iastore, 1) := by decide +kernel
theorem dX10_settle_81 : decode cX10_settle 81 = .ok (.goto (-81), 3) := by decide +kernel
theorem dX10_settle_84 : decode cX10_settle 84 = .ok (.aload_n 0, 1) := by decide +kernel
theorem dX10_settle_85 : decode cX10_settle 85 = .ok (.aload_n 0, 1) := by decide +kernel
theorem dX10_settle_86 : decode cX10_settle 86 = .ok (.getfield 52, 3) := by decide +kernel
theorem dX10_settle_89 : decode cX10_settle 89 = .ok (.aload_n 0, 1) := by decide +kernel
theorem dX10_settle_90 : decode cX10_settle 90 = .ok (.getfield 194, 3) := by decide +kernel
theorem dX10_settle_93 : decode cX10_settle 93 = .ok (.iaload, 1) := by decide +kernel
theorem dX10_settle_94 : decode cX10_settle 94 = .ok (.iconst 0, 1) := by decide +kernel
theorem dX10_settle_95 : decode cX10_settle 95 = .ok (.invokevirtual 200, 3) := by decide +kernel
theorem dX10_settle_98 : decode cX10_settle 98 = .ok (.goto (-98), 3) := by decide +kernel
theorem dX10_settle_101 : decode cX10_settle 101 = .ok (.return_, 1) := by decide +kernel
theorem dX10_inner_0 : decode cX10_inner 0 = .ok (.iconst (-1), 1) := by decide +kernel
theorem dX10_inner_1 : decode cX10_inner 1 = .ok (.istore_n 1, 1) := by decide +kernel
theorem dX10_inner_2 : decode cX10_inner 2 = .ok (.iconst 0, 1) := by decide +kernel
theorem dX10_inner_3 : decode cX10_inner 3 = .ok (.istore_n 2, 1) := by decide +kernel
theorem dX10_inner_4 : decode cX10_inner 4 = .ok (.iload_n 2, 1) := by decide +kernel
theorem dX10_inner_5 : decode cX10_inner 5 = .ok (.aload_n 0, 1) := by decide +kernel
theorem dX10_inner_6 : decode cX10_inner 6 = .ok (.getfield 194, 3) := by decide +kernel
theorem dX10_inner_9 : decode cX10_inner 9 = .ok (.if_icmp .ge 31, 3) := by decide +kernel
theorem dX10_inner_12 : decode cX10_inner 12 = .ok (.aload_n 0, 1) := by decide +kernel
theorem dX10_inner_13 : decode cX10_inner 13 = .ok (.getfield 52, 3) := by decide +kernel
theorem dX10_inner_16 : decode cX10_inner 16 = .ok (.iload_n 2, 1) := by decide +kernel
theorem dX10_inner_17 : decode cX10_inner 17 = .ok (.iaload, 1) := by decide +kernel
theorem dX10_inner_18 : decode cX10_inner 18 = .ok (.bipush 30, 2) := by decide +kernel
theorem dX10_inner_20 : decode cX10_inner 20 = .ok (.if_icmp .lt 12, 3) := by decide +kernel
theorem dX10_inner_23 : decode cX10_inner 23 = .ok (.aload_n 0, 1) := by decide +kernel
theorem dX10_inner_24 : decode cX10_inner 24 = .ok (.getfield 52, 3) := by decide +kernel
theorem dX10_inner_27 : decode cX10_inner 27 = .ok (.iload_n 2, 1) := by decide +kernel
theorem dX10_inner_28 : decode cX10_inner 28 = .ok (.iaload, 1) := by decide +kernel
theorem dX10_inner_29 : decode cX10_inner 29 = .ok (.goto 4, 3) := by decide +kernel
theorem dX10_inner_32 : decode cX10_inner 32 = .ok (.iload_n 1, 1) := by decide +kernel
theorem dX10_inner_33 : decode cX10_inner 33 = .ok (.istore_n 1, 1) := by decide +kernel
theorem dX10_inner_34 : decode cX10_inner 34 = .ok (.iinc 2 1, 3) := by decide +kernel
theorem dX10_inner_37 : decode cX10_inner 37 = .ok (.goto (-33), 3) := by decide +kernel
theorem dX10_inner_40 : decode cX10_inner 40 = .ok (.iload_n 1, 1) := by decide +kernel
theorem dX10_inner_41 : decode cX10_inner 41 = .ok (.ireturn, 1) := by decide +kernel
theorem dX10_isCompared_0 : decode cX10_isCompared 0 = .ok (.aload_n 0, 1) := by decide +kernel
theorem dX10_isCompared_1 : decode cX10_isCompared 1 = .ok (.getfield 194, 3) := by decide +kernel
theorem dX10_isCompared_4 : decode cX10_isCompared 4 = .ok (.iconst 1, 1) := by decide +kernel
theorem dX10_isCompared_5 : decode cX10_isCompared 5 = .ok (.isub, 1) := by decide +kernel
theorem dX10_isCompared_6 : decode cX10_isCompared 6 = .ok (.istore_n 1, 1) := by decide +kernel
theorem dX10_isCompared_7 : decode cX10_isCompared 7 = .ok (.iload_n 1, 1) := by decide +kernel
theorem dX10_isCompared_8 : decode cX10_isCompared 8 = .ok (.ifCond .lt 28, 3) := by decide +kernel
theorem dX10_isCompared_11 : decode cX10_isCompared 11 = .ok (.aload_n 0, 1) := by decide +kernel
theorem dX10_isCompared_12 : decode cX10_isCompared 12 = .ok (.getfield 52, 3) := by decide +kernel
theorem dX10_isCompared_15 : decode cX10_isCompared 15 = .ok (.iload_n 1, 1) := by decide +kernel
theorem dX10_isCompared_16 : decode cX10_isCompared 16 = .ok (.iaload, 1) := by decide +kernel
theorem dX10_isCompared_17 : decode cX10_isCompared 17 = .ok (.i2l, 1) := by decide +kernel
theorem dX10_isCompared_18 : decode cX10_isCompared 18 = .ok (.ldc2_w 204, 3) := by decide +kernel
theorem dX10_isCompared_21 : decode cX10_isCompared 21 = .ok (.ldc2_w 206, 3) := by decide +kernel
theorem dX10_isCompared_24 : decode cX10_isCompared 24 = .ok (.invokestatic 83, 3) := by decide +kernel
theorem dX10_isCompared_27 : decode cX10_isCompared 27 = .ok (.ifCond .eq 9, 3) := by decide +kernel
theorem dX10_isCompared_30 : decode cX10_isCompared 30 = .ok (.iinc 1 (-1), 3) := by decide +kernel
theorem dX10_isCompared_33 : decode cX10_isCompared 33 = .ok (.goto (-26), 3) := by decide +kernel
theorem dX10_isCompared_36 : decode cX10_isCompared 36 = .ok (.iload_n 1, 1) := by decide +kernel
theorem dX10_isCompared_37 : decode cX10_isCompared 37 = .ok (.ifCond .lt 26, 3) := by decide +kernel
theorem dX10_isCompared_40 : decode cX10_isCompared 40 = .ok (.aload_n 0, 1) := by decide +kernel
theorem dX10_isCompared_41 : decode cX10_isCompared 41 = .ok (.getfield 52, 3) := by decide +kernel
theorem dX10_isCompared_44 : decode cX10_isCompared 44 = .ok (.iload_n 1, 1) := by decide +kernel
theorem dX10_isCompared_45 : decode cX10_isCompared 45 = .ok (.iaload, 1) := by decide +kernel
theorem dX10_isCompared_46 : decode cX10_isCompared 46 = .ok (.i2l, 1) := by decide +kernel
theorem dX10_isCompared_47 : decode cX10_isCompared 47 = .ok (.ldc2_w 208, 3) := by decide +kernel
theorem dX10_isCompared_50 : decode cX10_isCompared 50 = .ok (.ldc2_w 210, 3) := by decide +kernel
theorem dX10_isCompared_53 : decode cX10_isCompared 53 = .ok (.invokestatic 83, 3) := by decide +kernel
theorem dX10_isCompared_56 : decode cX10_isCompared 56 = .ok (.ifCond .eq 7, 3) := by decide +kernel
theorem dX10_isCompared_59 : decode cX10_isCompared 59 = .ok (.iconst 1, 1) := by decide +kernel
theorem dX10_isCompared_60 : decode cX10_isCompared 60 = .ok (.goto 4, 3) := by decide +kernel
theorem dX10_isCompared_63 : decode cX10_isCompared 63 = .ok (.iconst 0, 1) := by decide +kernel
theorem dX10_isCompared_64 : decode cX10_isCompared 64 = .ok (.ireturn, 1) := by decide +kernel
theorem dX10_readNumber_0 : decode cX10_readNumber 0 = .ok (.aload_n 0, 1) := by decide +kernel
theorem dX10_readNumber_1 : decode cX10_readNumber 1 = .ok (.getfield 174, 3) := by decide +kernel
theorem dX10_readNumber_4 : decode cX10_readNumber 4 = .ok (.iconst 2, 1) := by decide +kernel
theorem dX10_readNumber_5 : decode cX10_readNumber 5 = .ok (.if_icmp .ne 17, 3) := by decide +kernel
theorem dX10_readNumber_8 : decode cX10_readNumber 8 = .ok (.aload_n 0, 1) := by decide +kernel
theorem dX10_readNumber_9 : decode cX10_readNumber 9 = .ok (.getfield 164, 3) := by decide +kernel
theorem dX10_readNumber_12 : decode cX10_readNumber 12 = .ok (.iload_n 1, 1) := by decide +kernel
theorem dX10_readNumber_13 : decode cX10_readNumber 13 = .ok (.i2l, 1) := by decide +kernel
theorem dX10_readNumber_14 : decode cX10_readNumber 14 = .ok (.lcmp, 1) := by decide +kernel
theorem dX10_readNumber_15 : decode cX10_readNumber 15 = .ok (.ifCond .gt 7, 3) := by decide +kernel
theorem dX10_readNumber_18 : decode cX10_readNumber 18 = .ok (.iconst 1, 1) := by decide +kernel
theorem dX10_readNumber_19 : decode cX10_readNumber 19 = .ok (.goto 4, 3) := by decide +kernel
theorem dX10_readNumber_22 : decode cX10_readNumber 22 = .ok (.iconst 0, 1) := by decide +kernel
theorem dX10_readNumber_23 : decode cX10_readNumber 23 = .ok (.istore_n 2, 1) := by decide +kernel
theorem dX10_readNumber_24 : decode cX10_readNumber 24 = .ok (.iload_n 2, 1) := by decide +kernel
theorem dX10_readNumber_25 : decode cX10_readNumber 25 = .ok (.ifCond .eq 11, 3) := by decide +kernel
theorem dX10_readNumber_28 : decode cX10_readNumber 28 = .ok (.aload_n 0, 1) := by decide +kernel
theorem dX10_readNumber_29 : decode cX10_readNumber 29 = .ok (.getfield 164, 3) := by decide +kernel
theorem dX10_readNumber_32 : decode cX10_readNumber 32 = .ok (.l2i, 1) := by decide +kernel
theorem dX10_readNumber_33 : decode cX10_readNumber 33 = .ok (.goto 4, 3) := by decide +kernel
theorem dX10_readNumber_36 : decode cX10_readNumber 36 = .ok (.iconst 0, 1) := by decide +kernel
theorem dX10_readNumber_37 : decode cX10_readNumber 37 = .ok (.istore_n 3, 1) := by decide +kernel
theorem dX10_readNumber_38 : decode cX10_readNumber 38 = .ok (.aload_n 0, 1) := by decide +kernel
theorem dX10_readNumber_39 : decode cX10_readNumber 39 = .ok (.iload_n 2, 1) := by decide +kernel
theorem dX10_readNumber_40 : decode cX10_readNumber 40 = .ok (.invokevirtual 187, 3) := by decide +kernel
theorem dX10_readNumber_43 : decode cX10_readNumber 43 = .ok (.iload_n 3, 1) := by decide +kernel
theorem dX10_readNumber_44 : decode cX10_readNumber 44 = .ok (.ireturn, 1) := by decide +kernel
theorem dX10_openBracket_0 : decode cX10_openBracket 0 = .ok (.aload_n 0, 1) := by decide +kernel
theorem dX10_openBracket_1 : decode cX10_openBracket 1 = .ok (.aload_n 0, 1) := by decide +kernel
theorem dX10_openBracket_2 : decode cX10_openBracket 2 = .ok (.getfield 212, 3) := by decide +kernel
theorem dX10_openBracket_5 : decode cX10_openBracket 5 = .ok (.bipush 8, 2) := by decide +kernel
theorem dX10_openBracket_7 : decode cX10_openBracket 7 = .ok (.if_icmp .ge 7, 3) := by decide +kernel
theorem dX10_openBracket_10 : decode cX10_openBracket 10 = .ok (.iconst 1, 1) := by decide +kernel
theorem dX10_openBracket_11 : decode cX10_openBracket 11 = .ok (.goto 4, 3) := by decide +kernel
theorem dX10_openBracket_14 : decode cX10_openBracket 14 = .ok (.iconst 0, 1) := by decide +kernel
theorem dX10_openBracket_15 : decode cX10_openBracket 15 = .ok (.invokevirtual 187, 3) := by decide +kernel
theorem dX10_openBracket_18 : decode cX10_openBracket 18 = .ok (.aload_n 0, 1) := by decide +kernel
theorem dX10_openBracket_19 : decode cX10_openBracket 19 = .ok (.getfield 154, 3) := by decide +kernel
theorem dX10_openBracket_22 : decode cX10_openBracket 22 = .ok (.ifCond .ne 19, 3) := by decide +kernel
theorem dX10_openBracket_25 : decode cX10_openBracket 25 = .ok (.aload_n 0, 1) := by decide +kernel
theorem dX10_openBracket_26 : decode cX10_openBracket 26 = .ok (.dup, 1) := by decide +kernel
theorem dX10_openBracket_27 : decode cX10_openBracket 27 = .ok (.getfield 212, 3) := by decide +kernel
theorem dX10_openBracket_30 : decode cX10_openBracket 30 = .ok (.iconst 1, 1) := by decide +kernel
theorem dX10_openBracket_31 : decode cX10_openBracket 31 = .ok (.iadd, 1) := by decide +kernel
theorem dX10_openBracket_32 : decode cX10_openBracket 32 = .ok (.putfield 212, 3) := by decide +kernel
theorem dX10_openBracket_35 : decode cX10_openBracket 35 = .ok (.aload_n 0, 1) := by decide +kernel
theorem dX10_openBracket_36 : decode cX10_openBracket 36 = .ok (.iload_n 1, 1) := by decide +kernel
theorem dX10_openBracket_37 : decode cX10_openBracket 37 = .ok (.iconst 0, 1) := by decide +kernel
theorem dX10_openBracket_38 : decode cX10_openBracket 38 = .ok (.invokevirtual 215, 3) := by decide +kernel
theorem dX10_openBracket_41 : decode cX10_openBracket 41 = .ok (.return_, 1) := by decide +kernel
theorem dX10_leaf_0 : decode cX10_leaf 0 = .ok (.aload_n 0, 1) := by decide +kernel
theorem dX10_leaf_1 : decode cX10_leaf 1 = .ok (.iload_n 1, 1) := by decide +kernel
theorem dX10_leaf_2 : decode cX10_leaf 2 = .ok (.ifCond .eq 16, 3) := by decide +kernel
theorem dX10_leaf_5 : decode cX10_leaf 5 = .ok (.aload_n 0, 1) := by decide +kernel
theorem dX10_leaf_6 : decode cX10_leaf 6 = .ok (.getfield 218, 3) := by decide +kernel
theorem dX10_leaf_9 : decode cX10_leaf 9 = .ok (.bipush 50, 2) := by decide +kernel
theorem dX10_leaf_11 : decode cX10_leaf 11 = .ok (.if_icmp .ge 7, 3) := by decide +kernel
theorem dX10_leaf_14 : decode cX10_leaf 14 = .ok (.iconst 1, 1) := by decide +kernel
theorem dX10_leaf_15 : decode cX10_leaf 15 = .ok (.goto 4, 3) := by decide +kernel
theorem dX10_leaf_18 : decode cX10_leaf 18 = .ok (.iconst 0, 1) := by decide +kernel
theorem dX10_leaf_19 : decode cX10_leaf 19 = .ok (.invokevirtual 187, 3) := by decide +kernel
theorem dX10_leaf_22 : decode cX10_leaf 22 = .ok (.aload_n 0, 1) := by decide +kernel
theorem dX10_leaf_23 : decode cX10_leaf 23 = .ok (.getfield 154, 3) := by decide +kernel
theorem dX10_leaf_26 : decode cX10_leaf 26 = .ok (.ifCond .ne 19, 3) := by decide +kernel
theorem dX10_leaf_29 : decode cX10_leaf 29 = .ok (.aload_n 0, 1) := by decide +kernel
theorem dX10_leaf_30 : decode cX10_leaf 30 = .ok (.iload_n 2, 1) := by decide +kernel
theorem dX10_leaf_31 : decode cX10_leaf 31 = .ok (.iload_n 3, 1) := by decide +kernel
theorem dX10_leaf_32 : decode cX10_leaf 32 = .ok (.invokevirtual 200, 3) := by decide +kernel
theorem dX10_leaf_35 : decode cX10_leaf 35 = .ok (.aload_n 0, 1) := by decide +kernel
theorem dX10_leaf_36 : decode cX10_leaf 36 = .ok (.dup, 1) := by decide +kernel
theorem dX10_leaf_37 : decode cX10_leaf 37 = .ok (.getfield 218, 3) := by decide +kernel
theorem dX10_leaf_40 : decode cX10_leaf 40 = .ok (.iconst 1, 1) := by decide +kernel
theorem dX10_leaf_41 : decode cX10_leaf 41 = .ok (.iadd, 1) := by decide +kernel
theorem dX10_leaf_42 : decode cX10_leaf 42 = .ok (.putfield 218, 3) := by decide +kernel
theorem dX10_leaf_45 : decode cX10_leaf 45 = .ok (.return_, 1) := by decide +kernel
theorem dX10_readPart_0 : decode cX10_readPart 0 = .ok (.aload_n 0, 1) := by decide +kernel
theorem dX10_readPart_1 : decode cX10_readPart 1 = .ok (.bipush 91, 2) := by decide +kernel
theorem dX10_readPart_3 : decode cX10_readPart 3 = .ok (.invokevirtual 221, 3) := by decide +kernel
theorem dX10_readPart_6 : decode cX10_readPart 6 = .ok (.ifCond .eq 11, 3) := by decide +kernel
theorem dX10_readPart_9 : decode cX10_readPart 9 = .ok (.aload_n 0, 1) := by decide +kernel
theorem dX10_readPart_10 : decode cX10_readPart 10 = .ok (.bipush 31, 2) := by decide +kernel
theorem dX10_readPart_12 : decode cX10_readPart 12 = .ok (.invokevirtual 224, 3) := by decide +kernel
theorem dX10_readPart_15 : decode cX10_readPart 15 = .ok (.iconst 1, 1) := by decide +kernel
theorem dX10_readPart_16 : decode cX10_readPart 16 = .ok (.ireturn, 1) := by decide +kernel
theorem dX10_readPart_17 : decode cX10_readPart 17 = .ok (.aload_n 0, 1) := by decide +kernel
theorem dX10_readPart_18 : decode cX10_readPart 18 = .ok (.ldc2_w 227, 3) := by decide +kernel
theorem dX10_readPart_21 : decode cX10_readPart 21 = .ok (.invokevirtual 229, 3) := by decide +kernel
theorem dX10_readPart_24 : decode cX10_readPart 24 = .ok (.ifCond .eq 7, 3) := by decide +kernel
theorem dX10_readPart_27 : decode cX10_readPart 27 = .ok (.iconst 1, 1) := by decide +kernel
theorem dX10_readPart_28 : decode cX10_readPart 28 = .ok (.goto 46, 3) := by decide +kernel
theorem dX10_readPart_31 : decode cX10_readPart 31 = .ok (.aload_n 0, 1) := by decide +kernel
theorem dX10_readPart_32 : decode cX10_readPart 32 = .ok (.ldc2_w 233, 3) := by decide +kernel
theorem dX10_readPart_35 : decode cX10_readPart 35 = .ok (.invokevirtual 229, 3) := by decide +kernel
theorem dX10_readPart_38 : decode cX10_readPart 38 = .ok (.ifCond .eq 7, 3) := by decide +kernel
theorem dX10_readPart_41 : decode cX10_readPart 41 = .ok (.iconst 2, 1) := by decide +kernel
theorem dX10_readPart_42 : decode cX10_readPart 42 = .ok (.goto 32, 3) := by decide +kernel
theorem dX10_readPart_45 : decode cX10_readPart 45 = .ok (.aload_n 0, 1) := by decide +kernel
theorem dX10_readPart_46 : decode cX10_readPart 46 = .ok (.ldc2_w 235, 3) := by decide +kernel
theorem dX10_readPart_49 : decode cX10_readPart 49 = .ok (.invokevirtual 229, 3) := by decide +kernel
theorem dX10_readPart_52 : decode cX10_readPart 52 = .ok (.ifCond .eq 7, 3) := by decide +kernel
theorem dX10_readPart_55 : decode cX10_readPart 55 = .ok (.iconst 3, 1) := by decide +kernel
theorem dX10_readPart_56 : decode cX10_readPart 56 = .ok (.goto 18, 3) := by decide +kernel
theorem dX10_readPart_59 : decode cX10_readPart 59 = .ok (.aload_n 0, 1) := by decide +kernel
theorem dX10_readPart_60 : decode cX10_readPart 60 = .ok (.ldc2_w 237, 3) := by decide +kernel
theorem dX10_readPart_63 : decode cX10_readPart 63 = .ok (.invokevirtual 229, 3) := by decide +kernel
theorem dX10_readPart_66 : decode cX10_readPart 66 = .ok (.ifCond .eq 7, 3) := by decide +kernel
theorem dX10_readPart_69 : decode cX10_readPart 69 = .ok (.iconst 4, 1) := by decide +kernel
theorem dX10_readPart_70 : decode cX10_readPart 70 = .ok (.goto 4, 3) := by decide +kernel
theorem dX10_readPart_73 : decode cX10_readPart 73 = .ok (.iconst (-1), 1) := by decide +kernel
theorem dX10_readPart_74 : decode cX10_readPart 74 = .ok (.istore_n 1, 1) := by decide +kernel
theorem dX10_readPart_75 : decode cX10_readPart 75 = .ok (.aload_n 0, 1) := by decide +kernel
theorem dX10_readPart_76 : decode cX10_readPart 76 = .ok (.getfield 174, 3) := by decide +kernel
theorem dX10_readPart_79 : decode cX10_readPart 79 = .ok (.iconst 2, 1) := by decide +kernel
theorem dX10_readPart_80 : decode cX10_readPart 80 = .ok (.if_icmp .ne 18, 3) := by decide +kernel
theorem dX10_readPart_83 : decode cX10_readPart 83 = .ok (.aload_n 0, 1) := by decide +kernel
theorem dX10_readPart_84 : decode cX10_readPart 84 = .ok (.getfield 164, 3) := by decide +kernel
theorem dX10_readPart_87 : decode cX10_readPart 87 = .ok (.ldc2_w 239, 3) := by decide +kernel
theorem dX10_readPart_90 : decode cX10_readPart 90 = .ok (.lcmp, 1) := by decide +kernel
theorem dX10_readPart_91 : decode cX10_readPart 91 = .ok (.ifCond .gt 7, 3) := by decide +kernel
theorem dX10_readPart_94 : decode cX10_readPart 94 = .ok (.iconst 1, 1) := by decide +kernel
theorem dX10_readPart_95 : decode cX10_readPart 95 = .ok (.goto 4, 3) := by decide +kernel
theorem dX10_readPart_98 : decode cX10_readPart 98 = .ok (.iconst 0, 1) := by decide +kernel
theorem dX10_readPart_99 : decode cX10_readPart 99 = .ok (.istore_n 2, 1) := by decide +kernel
theorem dX10_readPart_100 : decode cX10_readPart 100 = .ok (.aload_n 0, 1) := by decide +kernel
theorem dX10_readPart_101 : decode cX10_readPart 101 = .ok (.iload_n 1, 1) := by decide +kernel
theorem dX10_readPart_102 : decode cX10_readPart 102 = .ok (.iconst (-1), 1) := by decide +kernel
theorem dX10_readPart_103 : decode cX10_readPart 103 = .ok (.if_icmp .ne 7, 3) := by decide +kernel
theorem dX10_readPart_106 : decode cX10_readPart 106 = .ok (.iload_n 2, 1) := by decide +kernel
theorem dX10_readPart_107 : decode cX10_readPart 107 = .ok (.ifCond .eq 7, 3) := by decide +kernel
theorem dX10_readPart_110 : decode cX10_readPart 110 = .ok (.iconst 1, 1) := by decide +kernel
theorem dX10_readPart_111 : decode cX10_readPart 111 = .ok (.goto 4, 3) := by decide +kernel
theorem dX10_readPart_114 : decode cX10_readPart 114 = .ok (.iconst 0, 1) := by decide +kernel
theorem dX10_readPart_115 : decode cX10_readPart 115 = .ok (.iload_n 1, 1) := by decide +kernel
theorem dX10_readPart_116 : decode cX10_readPart 116 = .ok (.iconst (-1), 1) := by decide +kernel
theorem dX10_readPart_117 : decode cX10_readPart 117 = .ok (.if_icmp .ne 7, 3) := by decide +kernel
theorem dX10_readPart_120 : decode cX10_readPart 120 = .ok (.iconst 0, 1) := by decide +kernel
theorem dX10_readPart_121 : decode cX10_readPart 121 = .ok (.goto 4, 3) := by decide +kernel
theorem dX10_readPart_124 : decode cX10_readPart 124 = .ok (.iload_n 1, 1) := by decide +kernel
theorem dX10_readPart_125 : decode cX10_readPart 125 = .ok (.iload_n 2, 1) := by decide +kernel
theorem dX10_readPart_126 : decode cX10_readPart 126 = .ok (.ifCond .eq 11, 3) := by decide +kernel
theorem dX10_readPart_129 : decode cX10_readPart 129 = .ok (.aload_n 0, 1) := by decide +kernel
theorem dX10_readPart_130 : decode cX10_readPart 130 = .ok (.getfield 164, 3) := by decide +kernel
theorem dX10_readPart_133 : decode cX10_readPart 133 = .ok (.l2i, 1) := by decide +kernel
theorem dX10_readPart_134 : decode cX10_readPart 134 = .ok (.goto 4, 3) := by decide +kernel
theorem dX10_readPart_137 : decode cX10_readPart 137 = .ok (.iconst 0, 1) := by decide +kernel
theorem dX10_readPart_138 : decode cX10_readPart 138 = .ok (.invokevirtual 241, 3) := by decide +kernel
theorem dX10_readPart_141 : decode cX10_readPart 141 = .ok (.aload_n 0, 1) := by decide +kernel
theorem dX10_readPart_142 : decode cX10_readPart 142 = .ok (.getfield 191, 3) := by decide +kernel
theorem dX10_readPart_145 : decode cX10_readPart 145 = .ok (.iconst 1, 1) := by decide +kernel
theorem dX10_readPart_146 : decode cX10_readPart 146 = .ok (.isub, 1) := by decide +kernel
theorem dX10_readPart_147 : decode cX10_readPart 147 = .ok (.istore_n 3, 1) := by decide +kernel
theorem dX10_readPart_148 : decode cX10_readPart 148 = .ok (.iload_n 1, 1) := by decide +kernel
theorem dX10_readPart_149 : decode cX10_readPart 149 = .ok (.iconst 3, 1) := by decide +kernel
theorem dX10_readPart_150 : decode cX10_readPart 150 = .ok (.if_icmp .ne 18, 3) := by decide +kernel
theorem dX10_readPart_153 : decode cX10_readPart 153 = .ok (.aload_n 0, 1) := by decide +kernel
theorem dX10_readPart_154 : decode cX10_readPart 154 = .ok (.getfield 154, 3) := by decide +kernel
theorem dX10_readPart_157 : decode cX10_readPart 157 = .ok (.ifCond .ne 11, 3) := by decide +kernel
theorem dX10_readPart_160 : decode cX10_readPart 160 = .ok (.aload_n 0, 1) := by decide +kernel
theorem dX10_readPart_161 : decode cX10_readPart 161 = .ok (.iconst 3, 1) := by decide +kernel
theorem dX10_readPart_162 : decode cX10_readPart 162 = .ok (.invokevirtual 245, 3) := by decide +kernel
theorem dX10_readPart_165 : decode cX10_readPart 165 = .ok (.goto 4, 3) := by decide +kernel
theorem dX10_readPart_168 : decode cX10_readPart 168 = .ok (.iconst 0, 1) := by decide +kernel
theorem dX10_readPart_169 : decode cX10_readPart 169 = .ok (.istore 4, 2) := by decide +kernel
theorem dX10_readPart_171 : decode cX10_readPart 171 = .ok (.iload_n 1, 1) := by decide +kernel
theorem dX10_readPart_172 : decode cX10_readPart 172 = .ok (.iconst (-1), 1) := by decide +kernel
theorem dX10_readPart_173 : decode cX10_readPart 173 = .ok (.if_icmp .eq 23, 3) := by decide +kernel
theorem dX10_readPart_176 : decode cX10_readPart 176 = .ok (.iload_n 1, 1) := by decide +kernel
theorem dX10_readPart_177 : decode cX10_readPart 177 = .ok (.iconst 4, 1) := by decide +kernel
theorem dX10_readPart_178 : decode cX10_readPart 178 = .ok (.if_icmp .eq 18, 3) := by decide +kernel
theorem dX10_readPart_181 : decode cX10_readPart 181 = .ok (.aload_n 0, 1) := by decide +kernel
theorem dX10_readPart_182 : decode cX10_readPart 182 = .ok (.getfield 154, 3) := by decide +kernel
theorem dX10_readPart_185 : decode cX10_readPart 185 = .ok (.ifCond .ne 11, 3) := by decide +kernel
theorem dX10_readPart_188 : decode cX10_readPart 188 = .ok (.aload_n 0, 1) := by decide +kernel
theorem dX10_readPart_189 : decode cX10_readPart 189 = .ok (.iconst 5, 1) := by decide +kernel
theorem dX10_readPart_190 : decode cX10_readPart 190 = .ok (.invokevirtual 245, 3) := by decide +kernel
theorem dX10_readPart_193 : decode cX10_readPart 193 = .ok (.goto 4, 3) := by decide +kernel
theorem dX10_readPart_196 : decode cX10_readPart 196 = .ok (.iconst 0, 1) := by decide +kernel
theorem dX10_readPart_197 : decode cX10_readPart 197 = .ok (.istore 5, 2) := by decide +kernel
theorem dX10_readPart_199 : decode cX10_readPart 199 = .ok (.aload_n 0, 1) := by decide +kernel
theorem dX10_readPart_200 : decode cX10_readPart 200 = .ok (.getfield 154, 3) := by decide +kernel
theorem dX10_readPart_203 : decode cX10_readPart 203 = .ok (.ifCond .ne 22, 3) := by decide +kernel
theorem dX10_readPart_206 : decode cX10_readPart 206 = .ok (.iload_n 1, 1) := by decide +kernel
theorem dX10_readPart_207 : decode cX10_readPart 207 = .ok (.iconst (-1), 1) := by decide +kernel
theorem dX10_readPart_208 : decode cX10_readPart 208 = .ok (.if_icmp .eq 17, 3) := by decide +kernel
theorem dX10_readPart_211 : decode cX10_readPart 211 = .ok (.aload_n 0, 1) := by decide +kernel
theorem dX10_readPart_212 : decode cX10_readPart 212 = .ok (.getfield 49, 3) := by decide +kernel
theorem dX10_readPart_215 : decode cX10_readPart 215 = .ok (.iload_n 3, 1) := by decide +kernel
theorem dX10_readPart_216 : decode cX10_readPart 216 = .ok (.bipush 6, 2) := by decide +kernel
theorem dX10_readPart_218 : decode cX10_readPart 218 = .ok (.iload 4, 2) := by decide +kernel
theorem dX10_readPart_220 : decode cX10_readPart 220 = .ok (.imul, 1) := by decide +kernel
theorem dX10_readPart_221 : decode cX10_readPart 221 = .ok (.iload 5, 2) := by decide +kernel
theorem dX10_readPart_223 : decode cX10_readPart 223 = .ok (.iadd, 1) := by decide +kernel
theorem dX10_readPart_224 : decode cX10_readPart 224 = .ok (.iastore, 1) := by decide +kernel
theorem dX10_readPart_225 : decode cX10_readPart 225 = .ok (.iconst 3, 1) := by decide +kernel
theorem dX10_readPart_226 : decode cX10_readPart 226 = .ok (.ireturn, 1) := by decide +kernel
theorem dX10_readPlain_0 : decode cX10_readPlain 0 = .ok (.aload_n 0, 1) := by decide +kernel
theorem dX10_readPlain_1 : decode cX10_readPlain 1 = .ok (.ldc2_w 248, 3) := by decide +kernel
theorem dX10_readPlain_4 : decode cX10_readPlain 4 = .ok (.invokevirtual 229, 3) := by decide +kernel
theorem dX10_readPlain_7 : decode cX10_readPlain 7 = .ok (.ifCond .eq 16, 3) := by decide +kernel
theorem dX10_readPlain_10 : decode cX10_readPlain 10 = .ok (.aload_n 0, 1) := by decide +kernel
theorem dX10_readPlain_11 : decode cX10_readPlain 11 = .ok (.bipush 27, 2) := by decide +kernel
theorem dX10_readPlain_13 : decode cX10_readPlain 13 = .ok (.iconst 0, 1) := by decide +kernel
theorem dX10_readPlain_14 : decode cX10_readPlain 14 = .ok (.invokevirtual 215, 3) := by decide +kernel
theorem dX10_readPlain_17 : decode cX10_readPlain 17 = .ok (.aload_n 0, 1) := by decide +kernel
theorem dX10_readPlain_18 : decode cX10_readPlain 18 = .ok (.invokevirtual 158, 3) := by decide +kernel
theorem dX10_readPlain_21 : decode cX10_readPlain 21 = .ok (.iconst 0, 1) := by decide +kernel
theorem dX10_readPlain_22 : decode cX10_readPlain 22 = .ok (.ireturn, 1) := by decide +kernel
theorem dX10_readPlain_23 : decode cX10_readPlain 23 = .ok (.aload_n 0, 1) := by decide +kernel
theorem dX10_readPlain_24 : decode cX10_readPlain 24 = .ok (.bipush 40, 2) := by decide +kernel
theorem dX10_readPlain_26 : decode cX10_readPlain 26 = .ok (.invokevirtual 221, 3) := by decide +kernel
theorem dX10_readPlain_29 : decode cX10_readPlain 29 = .ok (.ifCond .eq 11, 3) := by decide +kernel
theorem dX10_readPlain_32 : decode cX10_readPlain 32 = .ok (.aload_n 0, 1) := by decide +kernel
theorem dX10_readPlain_33 : decode cX10_readPlain 33 = .ok (.bipush 30, 2) := by decide +kernel
theorem dX10_readPlain_35 : decode cX10_readPlain 35 = .ok (.invokevirtual 224, 3) := by decide +kernel
theorem dX10_readPlain_38 : decode cX10_readPlain 38 = .ok (.iconst 0, 1) := by decide +kernel
theorem dX10_readPlain_39 : decode cX10_readPlain 39 = .ok (.ireturn, 1) := by decide +kernel
theorem dX10_readPlain_40 : decode cX10_readPlain 40 = .ok (.aload_n 0, 1) := by decide +kernel
theorem dX10_readPlain_41 : decode cX10_readPlain 41 = .ok (.invokevirtual 250, 3) := by decide +kernel
theorem dX10_readPlain_44 : decode cX10_readPlain 44 = .ok (.ireturn, 1) := by decide +kernel
theorem dX10_behindSum_0 : decode cX10_behindSum 0 = .ok (.aload_n 0, 1) := by decide +kernel
theorem dX10_behindSum_1 : decode cX10_behindSum 1 = .ok (.bipush 43, 2) := by decide +kernel
theorem dX10_behindSum_3 : decode cX10_behindSum 3 = .ok (.invokevirtual 221, 3) := by decide +kernel
theorem dX10_behindSum_6 : decode cX10_behindSum 6 = .ok (.ifCond .eq 8, 3) := by decide +kernel
theorem dX10_behindSum_9 : decode cX10_behindSum 9 = .ok (.bipush 20, 2) := by decide +kernel
theorem dX10_behindSum_11 : decode cX10_behindSum 11 = .ok (.goto 46, 3) := by decide +kernel
theorem dX10_behindSum_14 : decode cX10_behindSum 14 = .ok (.aload_n 0, 1) := by decide +kernel
theorem dX10_behindSum_15 : decode cX10_behindSum 15 = .ok (.bipush 45, 2) := by decide +kernel
theorem dX10_behindSum_17 : decode cX10_behindSum 17 = .ok (.invokevirtual 221, 3) := by decide +kernel
theorem dX10_behindSum_20 : decode cX10_behindSum 20 = .ok (.ifCond .eq 8, 3) := by decide +kernel
theorem dX10_behindSum_23 : decode cX10_behindSum 23 = .ok (.bipush 21, 2) := by decide +kernel
theorem dX10_behindSum_25 : decode cX10_behindSum 25 = .ok (.goto 32, 3) := by decide +kernel
theorem dX10_behindSum_28 : decode cX10_behindSum 28 = .ok (.aload_n 0, 1) := by decide +kernel
theorem dX10_behindSum_29 : decode cX10_behindSum 29 = .ok (.bipush 42, 2) := by decide +kernel
theorem dX10_behindSum_31 : decode cX10_behindSum 31 = .ok (.invokevirtual 221, 3) := by decide +kernel
theorem dX10_behindSum_34 : decode cX10_behindSum 34 = .ok (.ifCond .eq 8, 3) := by decide +kernel
theorem dX10_behindSum_37 : decode cX10_behindSum 37 = .ok (.bipush 22, 2) := by decide +kernel
theorem dX10_behindSum_39 : decode cX10_behindSum 39 = .ok (.goto 18, 3) := by decide +kernel
theorem dX10_behindSum_42 : decode cX10_behindSum 42 = .ok (.aload_n 0, 1) := by decide +kernel
theorem dX10_behindSum_43 : decode cX10_behindSum 43 = .ok (.bipush 47, 2) := by decide +kernel
theorem dX10_behindSum_45 : decode cX10_behindSum 45 = .ok (.invokevirtual 221, 3) := by decide +kernel
theorem dX10_behindSum_48 : decode cX10_behindSum 48 = .ok (.ifCond .eq 8, 3) := by decide +kernel
theorem dX10_behindSum_51 : decode cX10_behindSum 51 = .ok (.bipush 23, 2) := by decide +kernel
theorem dX10_behindSum_53 : decode cX10_behindSum 53 = .ok (.goto 4, 3) := by decide +kernel
theorem dX10_behindSum_56 : decode cX10_behindSum 56 = .ok (.iconst (-1), 1) := by decide +kernel
theorem dX10_behindSum_57 : decode cX10_behindSum 57 = .ok (.istore_n 2, 1) := by decide +kernel
theorem dX10_behindSum_58 : decode cX10_behindSum 58 = .ok (.iload_n 2, 1) := by decide +kernel
theorem dX10_behindSum_59 : decode cX10_behindSum 59 = .ok (.iconst (-1), 1) := by decide +kernel
theorem dX10_behindSum_60 : decode cX10_behindSum 60 = .ok (.if_icmp .eq 23, 3) := by decide +kernel
theorem dX10_behindSum_63 : decode cX10_behindSum 63 = .ok (.aload_n 0, 1) := by decide +kernel
theorem dX10_behindSum_64 : decode cX10_behindSum 64 = .ok (.iload_n 2, 1) := by decide +kernel
theorem dX10_behindSum_65 : decode cX10_behindSum 65 = .ok (.invokestatic 197, 3) := by decide +kernel
theorem dX10_behindSum_68 : decode cX10_behindSum 68 = .ok (.invokevirtual 254, 3) := by decide +kernel
theorem dX10_behindSum_71 : decode cX10_behindSum 71 = .ok (.aload_n 0, 1) := by decide +kernel
theorem dX10_behindSum_72 : decode cX10_behindSum 72 = .ok (.iload_n 2, 1) := by decide +kernel
theorem dX10_behindSum_73 : decode cX10_behindSum 73 = .ok (.iconst 0, 1) := by decide +kernel
theorem dX10_behindSum_74 : decode cX10_behindSum 74 = .ok (.invokevirtual 215, 3) := by decide +kernel
theorem dX10_behindSum_77 : decode cX10_behindSum 77 = .ok (.aload_n 0, 1) := by decide +kernel
theorem dX10_behindSum_78 : decode cX10_behindSum 78 = .ok (.invokevirtual 158, 3) := by decide +kernel
theorem dX10_behindSum_81 : decode cX10_behindSum 81 = .ok (.iconst 1, 1) := by decide +kernel
theorem dX10_behindSum_82 : decode cX10_behindSum 82 = .ok (.ireturn, 1) := by decide +kernel
theorem dX10_behindSum_83 : decode cX10_behindSum 83 = .ok (.aload_n 0, 1) := by decide +kernel
theorem dX10_behindSum_84 : decode cX10_behindSum 84 = .ok (.invokevirtual 257, 3) := by decide +kernel
theorem dX10_behindSum_87 : decode cX10_behindSum 87 = .ok (.istore_n 3, 1) := by decide +kernel
theorem dX10_behindSum_88 : decode cX10_behindSum 88 = .ok (.iload_n 3, 1) := by decide +kernel
theorem dX10_behindSum_89 : decode cX10_behindSum 89 = .ok (.bipush 31, 2) := by decide +kernel
theorem dX10_behindSum_91 : decode cX10_behindSum 91 = .ok (.if_icmp .ne 47, 3) := by decide +kernel
theorem dX10_behindSum_94 : decode cX10_behindSum 94 = .ok (.aload_n 0, 1) := by decide +kernel
theorem dX10_behindSum_95 : decode cX10_behindSum 95 = .ok (.aload_n 0, 1) := by decide +kernel
theorem dX10_behindSum_96 : decode cX10_behindSum 96 = .ok (.bipush 93, 2) := by decide +kernel
theorem dX10_behindSum_98 : decode cX10_behindSum 98 = .ok (.invokevirtual 221, 3) := by decide +kernel
theorem dX10_behindSum_101 : decode cX10_behindSum 101 = .ok (.invokevirtual 187, 3) := by decide +kernel
theorem dX10_behindSum_104 : decode cX10_behindSum 104 = .ok (.aload_n 0, 1) := by decide +kernel
theorem dX10_behindSum_105 : decode cX10_behindSum 105 = .ok (.getfield 154, 3) := by decide +kernel
theorem dX10_behindSum_108 : decode cX10_behindSum 108 = .ok (.ifCond .ne 28, 3) := by decide +kernel
theorem dX10_behindSum_111 : decode cX10_behindSum 111 = .ok (.aload_n 0, 1) := by decide +kernel
theorem dX10_behindSum_112 : decode cX10_behindSum 112 = .ok (.iconst 5, 1) := by decide +kernel
theorem dX10_behindSum_113 : decode cX10_behindSum 113 = .ok (.invokevirtual 254, 3) := by decide +kernel
theorem dX10_behindSum_116 : decode cX10_behindSum 116 = .ok (.aload_n 0, 1) := by decide +kernel
theorem dX10_behindSum_117 : decode cX10_behindSum 117 = .ok (.dup, 1) := by decide +kernel
theorem dX10_behindSum_118 : decode cX10_behindSum 118 = .ok (.getfield 194, 3) := by decide +kernel
theorem dX10_behindSum_121 : decode cX10_behindSum 121 = .ok (.iconst 1, 1) := by decide +kernel
theorem dX10_behindSum_122 : decode cX10_behindSum 122 = .ok (.isub, 1) := by decide +kernel
theorem dX10_behindSum_123 : decode cX10_behindSum 123 = .ok (.putfield 194, 3) := by decide +kernel
theorem dX10_behindSum_126 : decode cX10_behindSum 126 = .ok (.aload_n 0, 1) := by decide +kernel
theorem dX10_behindSum_127 : decode cX10_behindSum 127 = .ok (.dup, 1) := by decide +kernel
theorem dX10_behindSum_128 : decode cX10_behindSum 128 = .ok (.getfield 212, 3) := by decide +kernel
theorem dX10_behindSum_131 : decode cX10_behindSum 131 = .ok (.iconst 1, 1) := by decide +kernel
theorem dX10_behindSum_132 : decode cX10_behindSum 132 = .ok (.isub, 1) := by decide +kernel
theorem dX10_behindSum_133 : decode cX10_behindSum 133 = .ok (.putfield 212, 3) := by decide +kernel
theorem dX10_behindSum_136 : decode cX10_behindSum 136 = .ok (.iconst 3, 1) := by decide +kernel
theorem dX10_behindSum_137 : decode cX10_behindSum 137 = .ok (.ireturn, 1) := by decide +kernel
theorem dX10_behindSum_138 : decode cX10_behindSum 138 = .ok (.iload_n 3, 1) := by decide +kernel
theorem dX10_behindSum_139 : decode cX10_behindSum 139 = .ok (.iconst (-1), 1) := by decide +kernel
theorem dX10_behindSum_140 : decode cX10_behindSum 140 = .ok (.if_icmp .ne 9, 3) := by decide +kernel
theorem dX10_behindSum_143 : decode cX10_behindSum 143 = .ok (.iload_n 1, 1) := by decide +kernel
theorem dX10_behindSum_144 : decode cX10_behindSum 144 = .ok (.ifCond .ne 5, 3) := by decide +kernel
theorem dX10_behindSum_147 : decode cX10_behindSum 147 = .ok (.iconst 4, 1) := by decide +kernel
theorem dX10_behindSum_148 : decode cX10_behindSum 148 = .ok (.ireturn, 1) := by decide +kernel
theorem dX10_behindSum_149 : decode cX10_behindSum 149 = .ok (.aload_n 0, 1) := by decide +kernel
theorem dX10_behindSum_150 : decode cX10_behindSum 150 = .ok (.invokevirtual 260, 3) := by decide +kernel
theorem dX10_behindSum_153 : decode cX10_behindSum 153 = .ok (.ifCond .eq 5, 3) := by decide +kernel
theorem dX10_behindSum_156 : decode cX10_behindSum 156 = .ok (.iconst 2, 1) := by decide +kernel
theorem dX10_behindSum_157 : decode cX10_behindSum 157 = .ok (.ireturn, 1) := by decide +kernel
theorem dX10_behindSum_158 : decode cX10_behindSum 158 = .ok (.aload_n 0, 1) := by decide +kernel
theorem dX10_behindSum_159 : decode cX10_behindSum 159 = .ok (.bipush 60, 2) := by decide +kernel
theorem dX10_behindSum_161 : decode cX10_behindSum 161 = .ok (.invokevirtual 221, 3) := by decide +kernel
theorem dX10_behindSum_164 : decode cX10_behindSum 164 = .ok (.ifCond .eq 8, 3) := by decide +kernel
theorem dX10_behindSum_167 : decode cX10_behindSum 167 = .ok (.bipush 24, 2) := by decide +kernel
theorem dX10_behindSum_169 : decode cX10_behindSum 169 = .ok (.goto 19, 3) := by decide +kernel
theorem dX10_behindSum_172 : decode cX10_behindSum 172 = .ok (.aload_n 0, 1) := by decide +kernel
theorem dX10_behindSum_173 : decode cX10_behindSum 173 = .ok (.bipush 62, 2) := by decide +kernel
theorem dX10_behindSum_175 : decode cX10_behindSum 175 = .ok (.invokevirtual 221, 3) := by decide +kernel
theorem dX10_behindSum_178 : decode cX10_behindSum 178 = .ok (.ifCond .eq 8, 3) := by decide +kernel
theorem dX10_behindSum_181 : decode cX10_behindSum 181 = .ok (.bipush 25, 2) := by decide +kernel
theorem dX10_behindSum_183 : decode cX10_behindSum 183 = .ok (.goto 5, 3) := by decide +kernel
theorem dX10_behindSum_186 : decode cX10_behindSum 186 = .ok (.bipush 26, 2) := by decide +kernel
theorem dX10_behindSum_188 : decode cX10_behindSum 188 = .ok (.istore_n 2, 1) := by decide +kernel
theorem dX10_behindSum_189 : decode cX10_behindSum 189 = .ok (.aload_n 0, 1) := by decide +kernel
theorem dX10_behindSum_190 : decode cX10_behindSum 190 = .ok (.iload_n 2, 1) := by decide +kernel
theorem dX10_behindSum_191 : decode cX10_behindSum 191 = .ok (.bipush 26, 2) := by decide +kernel
theorem dX10_behindSum_193 : decode cX10_behindSum 193 = .ok (.if_icmp .ne 12, 3) := by decide +kernel
theorem dX10_behindSum_196 : decode cX10_behindSum 196 = .ok (.aload_n 0, 1) := by decide +kernel
theorem dX10_behindSum_197 : decode cX10_behindSum 197 = .ok (.bipush 61, 2) := by decide +kernel
theorem dX10_behindSum_199 : decode cX10_behindSum 199 = .ok (.invokevirtual 221, 3) := by decide +kernel
theorem dX10_behindSum_202 : decode cX10_behindSum 202 = .ok (.ifCond .eq 7, 3) := by decide +kernel
theorem dX10_behindSum_205 : decode cX10_behindSum 205 = .ok (.iconst 1, 1) := by decide +kernel
theorem dX10_behindSum_206 : decode cX10_behindSum 206 = .ok (.goto 4, 3) := by decide +kernel
theorem dX10_behindSum_209 : decode cX10_behindSum 209 = .ok (.iconst 0, 1) := by decide +kernel
theorem dX10_behindSum_210 : decode cX10_behindSum 210 = .ok (.invokevirtual 187, 3) := by decide +kernel
theorem dX10_behindSum_213 : decode cX10_behindSum 213 = .ok (.aload_n 0, 1) := by decide +kernel
theorem dX10_behindSum_214 : decode cX10_behindSum 214 = .ok (.getfield 154, 3) := by decide +kernel
theorem dX10_behindSum_217 : decode cX10_behindSum 217 = .ok (.ifCond .ne 14, 3) := by decide +kernel
theorem dX10_behindSum_220 : decode cX10_behindSum 220 = .ok (.aload_n 0, 1) := by decide +kernel
theorem dX10_behindSum_221 : decode cX10_behindSum 221 = .ok (.iconst 5, 1) := by decide +kernel
theorem dX10_behindSum_222 : decode cX10_behindSum 222 = .ok (.invokevirtual 254, 3) := by decide +kernel
theorem dX10_behindSum_225 : decode cX10_behindSum 225 = .ok (.aload_n 0, 1) := by decide +kernel
theorem dX10_behindSum_226 : decode cX10_behindSum 226 = .ok (.iload_n 2, 1) := by decide +kernel
theorem dX10_behindSum_227 : decode cX10_behindSum 227 = .ok (.iconst 0, 1) := by decide +kernel
theorem dX10_behindSum_228 : decode cX10_behindSum 228 = .ok (.invokevirtual 215, 3) := by decide +kernel
theorem dX10_behindSum_231 : decode cX10_behindSum 231 = .ok (.iconst 1, 1) := by decide +kernel
theorem dX10_behindSum_232 : decode cX10_behindSum 232 = .ok (.ireturn, 1) := by decide +kernel
theorem dX10_behindTest_0 : decode cX10_behindTest 0 = .ok (.aload_n 0, 1) := by decide +kernel
theorem dX10_behindTest_1 : decode cX10_behindTest 1 = .ok (.ldc2_w 264, 3) := by decide +kernel
theorem dX10_behindTest_4 : decode cX10_behindTest 4 = .ok (.invokevirtual 229, 3) := by decide +kernel
theorem dX10_behindTest_7 : decode cX10_behindTest 7 = .ok (.istore_n 1, 1) := by decide +kernel
theorem dX10_behindTest_8 : decode cX10_behindTest 8 = .ok (.iload_n 1, 1) := by decide +kernel
theorem dX10_behindTest_9 : decode cX10_behindTest 9 = .ok (.ifCond .ne 13, 3) := by decide +kernel
theorem dX10_behindTest_12 : decode cX10_behindTest 12 = .ok (.aload_n 0, 1) := by decide +kernel
theorem dX10_behindTest_13 : decode cX10_behindTest 13 = .ok (.ldc2_w 266, 3) := by decide +kernel
theorem dX10_behindTest_16 : decode cX10_behindTest 16 = .ok (.invokevirtual 229, 3) := by decide +kernel
theorem dX10_behindTest_19 : decode cX10_behindTest 19 = .ok (.ifCond .eq 57, 3) := by decide +kernel
theorem dX10_behindTest_22 : decode cX10_behindTest 22 = .ok (.aload_n 0, 1) := by decide +kernel
theorem dX10_behindTest_23 : decode cX10_behindTest 23 = .ok (.iload_n 1, 1) := by decide +kernel
theorem dX10_behindTest_24 : decode cX10_behindTest 24 = .ok (.ifCond .eq 7, 3) := by decide +kernel
theorem dX10_behindTest_27 : decode cX10_behindTest 27 = .ok (.iconst 2, 1) := by decide +kernel
theorem dX10_behindTest_28 : decode cX10_behindTest 28 = .ok (.goto 4, 3) := by decide +kernel
theorem dX10_behindTest_31 : decode cX10_behindTest 31 = .ok (.iconst 1, 1) := by decide +kernel
theorem dX10_behindTest_32 : decode cX10_behindTest 32 = .ok (.invokevirtual 254, 3) := by decide +kernel
theorem dX10_behindTest_35 : decode cX10_behindTest 35 = .ok (.aload_n 0, 1) := by decide +kernel
theorem dX10_behindTest_36 : decode cX10_behindTest 36 = .ok (.iload_n 1, 1) := by decide +kernel
theorem dX10_behindTest_37 : decode cX10_behindTest 37 = .ok (.ifCond .eq 8, 3) := by decide +kernel
theorem dX10_behindTest_40 : decode cX10_behindTest 40 = .ok (.bipush 28, 2) := by decide +kernel
theorem dX10_behindTest_42 : decode cX10_behindTest 42 = .ok (.goto 5, 3) := by decide +kernel
theorem dX10_behindTest_45 : decode cX10_behindTest 45 = .ok (.bipush 29, 2) := by decide +kernel
theorem dX10_behindTest_47 : decode cX10_behindTest 47 = .ok (.aload_n 0, 1) := by decide +kernel
theorem dX10_behindTest_48 : decode cX10_behindTest 48 = .ok (.getfield 191, 3) := by decide +kernel
theorem dX10_behindTest_51 : decode cX10_behindTest 51 = .ok (.invokevirtual 215, 3) := by decide +kernel
theorem dX10_behindTest_54 : decode cX10_behindTest 54 = .ok (.aload_n 0, 1) := by decide +kernel
theorem dX10_behindTest_55 : decode cX10_behindTest 55 = .ok (.iload_n 1, 1) := by decide +kernel
theorem dX10_behindTest_56 : decode cX10_behindTest 56 = .ok (.ifCond .eq 8, 3) := by decide +kernel
theorem dX10_behindTest_59 : decode cX10_behindTest 59 = .ok (.bipush 28, 2) := by decide +kernel
theorem dX10_behindTest_61 : decode cX10_behindTest 61 = .ok (.goto 5, 3) := by decide +kernel
theorem dX10_behindTest_64 : decode cX10_behindTest 64 = .ok (.bipush 29, 2) := by decide +kernel
theorem dX10_behindTest_66 : decode cX10_behindTest 66 = .ok (.iconst 0, 1) := by decide +kernel
theorem dX10_behindTest_67 : decode cX10_behindTest 67 = .ok (.invokevirtual 200, 3) := by decide +kernel
theorem dX10_behindTest_70 : decode cX10_behindTest 70 = .ok (.aload_n 0, 1) := by decide +kernel
theorem dX10_behindTest_71 : decode cX10_behindTest 71 = .ok (.invokevirtual 158, 3) := by decide +kernel
theorem dX10_behindTest_74 : decode cX10_behindTest 74 = .ok (.iconst 0, 1) := by decide +kernel
theorem dX10_behindTest_75 : decode cX10_behindTest 75 = .ok (.ireturn, 1) := by decide +kernel
theorem dX10_behindTest_76 : decode cX10_behindTest 76 = .ok (.aload_n 0, 1) := by decide +kernel
theorem dX10_behindTest_77 : decode cX10_behindTest 77 = .ok (.invokevirtual 257, 3) := by decide +kernel
theorem dX10_behindTest_80 : decode cX10_behindTest 80 = .ok (.iconst (-1), 1) := by decide +kernel
theorem dX10_behindTest_81 : decode cX10_behindTest 81 = .ok (.if_icmp .ne 5, 3) := by decide +kernel
theorem dX10_behindTest_84 : decode cX10_behindTest 84 = .ok (.iconst 4, 1) := by decide +kernel
theorem dX10_behindTest_85 : decode cX10_behindTest 85 = .ok (.ireturn, 1) := by decide +kernel
theorem dX10_behindTest_86 : decode cX10_behindTest 86 = .ok (.aload_n 0, 1) := by decide +kernel
theorem dX10_behindTest_87 : decode cX10_behindTest 87 = .ok (.aload_n 0, 1) := by decide +kernel
theorem dX10_behindTest_88 : decode cX10_behindTest 88 = .ok (.bipush 41, 2) := by decide +kernel
theorem dX10_behindTest_90 : decode cX10_behindTest 90 = .ok (.invokevirtual 221, 3) := by decide +kernel
theorem dX10_behindTest_93 : decode cX10_behindTest 93 = .ok (.invokevirtual 187, 3) := by decide +kernel
theorem dX10_behindTest_96 : decode cX10_behindTest 96 = .ok (.aload_n 0, 1) := by decide +kernel
theorem dX10_behindTest_97 : decode cX10_behindTest 97 = .ok (.getfield 154, 3) := by decide +kernel
theorem dX10_behindTest_100 : decode cX10_behindTest 100 = .ok (.ifCond .ne 28, 3) := by decide +kernel
theorem dX10_behindTest_103 : decode cX10_behindTest 103 = .ok (.aload_n 0, 1) := by decide +kernel
theorem dX10_behindTest_104 : decode cX10_behindTest 104 = .ok (.iconst 1, 1) := by decide +kernel
theorem dX10_behindTest_105 : decode cX10_behindTest 105 = .ok (.invokevirtual 254, 3) := by decide +kernel
theorem dX10_behindTest_108 : decode cX10_behindTest 108 = .ok (.aload_n 0, 1) := by decide +kernel
theorem dX10_behindTest_109 : decode cX10_behindTest 109 = .ok (.dup, 1) := by decide +kernel
theorem dX10_behindTest_110 : decode cX10_behindTest 110 = .ok (.getfield 194, 3) := by decide +kernel
theorem dX10_behindTest_113 : decode cX10_behindTest 113 = .ok (.iconst 1, 1) := by decide +kernel
theorem dX10_behindTest_114 : decode cX10_behindTest 114 = .ok (.isub, 1) := by decide +kernel
theorem dX10_behindTest_115 : decode cX10_behindTest 115 = .ok (.putfield 194, 3) := by decide +kernel
theorem dX10_behindTest_118 : decode cX10_behindTest 118 = .ok (.aload_n 0, 1) := by decide +kernel
theorem dX10_behindTest_119 : decode cX10_behindTest 119 = .ok (.dup, 1) := by decide +kernel
theorem dX10_behindTest_120 : decode cX10_behindTest 120 = .ok (.getfield 212, 3) := by decide +kernel
theorem dX10_behindTest_123 : decode cX10_behindTest 123 = .ok (.iconst 1, 1) := by decide +kernel
theorem dX10_behindTest_124 : decode cX10_behindTest 124 = .ok (.isub, 1) := by decide +kernel
theorem dX10_behindTest_125 : decode cX10_behindTest 125 = .ok (.putfield 212, 3) := by decide +kernel
theorem dX10_behindTest_128 : decode cX10_behindTest 128 = .ok (.iconst 2, 1) := by decide +kernel
theorem dX10_behindTest_129 : decode cX10_behindTest 129 = .ok (.ireturn, 1) := by decide +kernel
theorem dX10_readExpression_0 : decode cX10_readExpression 0 = .ok (.aload_n 0, 1) := by decide +kernel
theorem dX10_readExpression_1 : decode cX10_readExpression 1 = .ok (.iconst 0, 1) := by decide +kernel
theorem dX10_readExpression_2 : decode cX10_readExpression 2 = .ok (.putfield 194, 3) := by decide +kernel
theorem dX10_readExpression_5 : decode cX10_readExpression 5 = .ok (.aload_n 0, 1) := by decide +kernel
theorem dX10_readExpression_6 : decode cX10_readExpression 6 = .ok (.iconst 0, 1) := by decide +kernel
theorem dX10_readExpression_7 : decode cX10_readExpression 7 = .ok (.putfield 212, 3) := by decide +kernel
theorem dX10_readExpression_10 : decode cX10_readExpression 10 = .ok (.iload_n 1, 1) := by decide +kernel
theorem dX10_readExpression_11 : decode cX10_readExpression 11 = .ok (.ifCond .eq 7, 3) := by decide +kernel
theorem dX10_readExpression_14 : decode cX10_readExpression 14 = .ok (.iconst 0, 1) := by decide +kernel
theorem dX10_readExpression_15 : decode cX10_readExpression 15 = .ok (.goto 4, 3) := by decide +kernel
theorem dX10_readExpression_18 : decode cX10_readExpression 18 = .ok (.iconst 1, 1) := by decide +kernel
theorem dX10_readExpression_19 : decode cX10_readExpression 19 = .ok (.istore_n 2, 1) := by decide +kernel
theorem dX10_readExpression_20 : decode cX10_readExpression 20 = .ok (.aload_n 0, 1) := by decide +kernel
theorem dX10_readExpression_21 : decode cX10_readExpression 21 = .ok (.getfield 154, 3) := by decide +kernel
theorem dX10_readExpression_24 : decode cX10_readExpression 24 = .ok (.ifCond .ne 52, 3) := by decide +kernel
theorem dX10_readExpression_27 : decode cX10_readExpression 27 = .ok (.iload_n 2, 1) := by decide +kernel
theorem dX10_readExpression_28 : decode cX10_readExpression 28 = .ok (.iconst 4, 1) := by decide +kernel
theorem dX10_readExpression_29 : decode cX10_readExpression 29 = .ok (.if_icmp .eq 47, 3) := by decide +kernel
theorem dX10_readExpression_32 : decode cX10_readExpression 32 = .ok (.iload_n 2, 1) := by decide +kernel
theorem dX10_readExpression_33 : decode cX10_readExpression 33 = .ok (.ifCond .ne 10, 3) := by decide +kernel
theorem dX10_readExpression_36 : decode cX10_readExpression 36 = .ok (.aload_n 0, 1) := by decide +kernel
theorem dX10_readExpression_37 : decode cX10_readExpression 37 = .ok (.invokevirtual 268, 3) := by decide +kernel
theorem dX10_readExpression_40 : decode cX10_readExpression 40 = .ok (.goto 32, 3) := by decide +kernel
theorem dX10_readExpression_43 : decode cX10_readExpression 43 = .ok (.iload_n 2, 1) := by decide +kernel
theorem dX10_readExpression_44 : decode cX10_readExpression 44 = .ok (.iconst 1, 1) := by decide +kernel
theorem dX10_readExpression_45 : decode cX10_readExpression 45 = .ok (.if_icmp .ne 10, 3) := by decide +kernel
theorem dX10_readExpression_48 : decode cX10_readExpression 48 = .ok (.aload_n 0, 1) := by decide +kernel
theorem dX10_readExpression_49 : decode cX10_readExpression 49 = .ok (.invokevirtual 250, 3) := by decide +kernel
theorem dX10_readExpression_52 : decode cX10_readExpression 52 = .ok (.goto 20, 3) := by decide +kernel
theorem dX10_readExpression_55 : decode cX10_readExpression 55 = .ok (.iload_n 2, 1) := by decide +kernel
theorem dX10_readExpression_56 : decode cX10_readExpression 56 = .ok (.iconst 3, 1) := by decide +kernel
theorem dX10_readExpression_57 : decode cX10_readExpression 57 = .ok (.if_icmp .ne 11, 3) := by decide +kernel
theorem dX10_readExpression_60 : decode cX10_readExpression 60 = .ok (.aload_n 0, 1) := by decide +kernel
theorem dX10_readExpression_61 : decode cX10_readExpression 61 = .ok (.iload_n 1, 1) := by decide +kernel
theorem dX10_readExpression_62 : decode cX10_readExpression 62 = .ok (.invokevirtual 271, 3) := by decide +kernel
theorem dX10_readExpression_65 : decode cX10_readExpression 65 = .ok (.goto 7, 3) := by decide +kernel
theorem dX10_readExpression_68 : decode cX10_readExpression 68 = .ok (.aload_n 0, 1) := by decide +kernel
theorem dX10_readExpression_69 : decode cX10_readExpression 69 = .ok (.invokevirtual 275, 3) := by decide +kernel
theorem dX10_readExpression_72 : decode cX10_readExpression 72 = .ok (.istore_n 2, 1) := by decide +kernel
theorem dX10_readExpression_73 : decode cX10_readExpression 73 = .ok (.goto (-53), 3) := by decide +kernel
theorem dX10_readExpression_76 : decode cX10_readExpression 76 = .ok (.aload_n 0, 1) := by decide +kernel
theorem dX10_readExpression_77 : decode cX10_readExpression 77 = .ok (.iconst 1, 1) := by decide +kernel
theorem dX10_readExpression_78 : decode cX10_readExpression 78 = .ok (.invokevirtual 254, 3) := by decide +kernel
theorem dX10_readExpression_81 : decode cX10_readExpression 81 = .ok (.return_, 1) := by decide +kernel
theorem dX10_readClause_0 : decode cX10_readClause 0 = .ok (.aload_n 0, 1) := by decide +kernel
theorem dX10_readClause_1 : decode cX10_readClause 1 = .ok (.ldc2_w 278, 3) := by decide +kernel
theorem dX10_readClause_4 : decode cX10_readClause 4 = .ok (.invokevirtual 229, 3) := by decide +kernel
theorem dX10_readClause_7 : decode cX10_readClause 7 = .ok (.ifCond .eq 7, 3) := by decide +kernel
theorem dX10_readClause_10 : decode cX10_readClause 10 = .ok (.iconst 0, 1) := by decide +kernel
theorem dX10_readClause_11 : decode cX10_readClause 11 = .ok (.goto 32, 3) := by decide +kernel
theorem dX10_readClause_14 : decode cX10_readClause 14 = .ok (.aload_n 0, 1) := by decide +kernel
theorem dX10_readClause_15 : decode cX10_readClause 15 = .ok (.ldc2_w 280, 3) := by decide +kernel
theorem dX10_readClause_18 : decode cX10_readClause 18 = .ok (.invokevirtual 229, 3) := by decide +kernel
theorem dX10_readClause_21 : decode cX10_readClause 21 = .ok (.ifCond .eq 7, 3) := by decide +kernel
theorem dX10_readClause_24 : decode cX10_readClause 24 = .ok (.iconst 1, 1) := by decide +kernel
theorem dX10_readClause_25 : decode cX10_readClause 25 = .ok (.goto 18, 3) := by decide +kernel
theorem dX10_readClause_28 : decode cX10_readClause 28 = .ok (.aload_n 0, 1) := by decide +kernel
theorem dX10_readClause_29 : decode cX10_readClause 29 = .ok (.ldc2_w 282, 3) := by decide +kernel
theorem dX10_readClause_32 : decode cX10_readClause 32 = .ok (.invokevirtual 229, 3) := by decide +kernel
theorem dX10_readClause_35 : decode cX10_readClause 35 = .ok (.ifCond .eq 7, 3) := by decide +kernel
theorem dX10_readClause_38 : decode cX10_readClause 38 = .ok (.iconst 2, 1) := by decide +kernel
theorem dX10_readClause_39 : decode cX10_readClause 39 = .ok (.goto 4, 3) := by decide +kernel
theorem dX10_readClause_42 : decode cX10_readClause 42 = .ok (.iconst (-1), 1) := by decide +kernel
theorem dX10_readClause_43 : decode cX10_readClause 43 = .ok (.istore_n 1, 1) := by decide +kernel
theorem dX10_readClause_44 : decode cX10_readClause 44 = .ok (.aload_n 0, 1) := by decide +kernel
theorem dX10_readClause_45 : decode cX10_readClause 45 = .ok (.iload_n 1, 1) := by decide +kernel
theorem dX10_readClause_46 : decode cX10_readClause 46 = .ok (.iconst (-1), 1) := by decide +kernel
theorem dX10_readClause_47 : decode cX10_readClause 47 = .ok (.if_icmp .eq 16, 3) := by decide +kernel
theorem dX10_readClause_50 : decode cX10_readClause 50 = .ok (.aload_n 0, 1) := by decide +kernel
theorem dX10_readClause_51 : decode cX10_readClause 51 = .ok (.getfield 284, 3) := by decide +kernel
theorem dX10_readClause_54 : decode cX10_readClause 54 = .ok (.bipush 12, 2) := by decide +kernel
theorem dX10_readClause_56 : decode cX10_readClause 56 = .ok (.if_icmp .ge 7, 3) := by decide +kernel
theorem dX10_readClause_59 : decode cX10_readClause 59 = .ok (.iconst 1, 1) := by decide +kernel
theorem dX10_readClause_60 : decode cX10_readClause 60 = .ok (.goto 4, 3) := by decide +kernel
theorem dX10_readClause_63 : decode cX10_readClause 63 = .ok (.iconst 0, 1) := by decide +kernel
theorem dX10_readClause_64 : decode cX10_readClause 64 = .ok (.invokevirtual 187, 3) := by decide +kernel
theorem dX10_readClause_67 : decode cX10_readClause 67 = .ok (.aload_n 0, 1) := by decide +kernel
theorem dX10_readClause_68 : decode cX10_readClause 68 = .ok (.getfield 154, 3) := by decide +kernel
theorem dX10_readClause_71 : decode cX10_readClause 71 = .ok (.ifCond .eq 4, 3) := by decide +kernel
theorem dX10_readClause_74 : decode cX10_readClause 74 = .ok (.return_, 1) := by decide +kernel
theorem dX10_readClause_75 : decode cX10_readClause 75 = .ok (.bipush 8, 2) := by decide +kernel
theorem dX10_readClause_77 : decode cX10_readClause 77 = .ok (.aload_n 0, 1) := by decide +kernel
theorem dX10_readClause_78 : decode cX10_readClause 78 = .ok (.getfield 284, 3) := by decide +kernel
theorem dX10_readClause_81 : decode cX10_readClause 81 = .ok (.imul, 1) := by decide +kernel
theorem dX10_readClause_82 : decode cX10_readClause 82 = .ok (.istore_n 2, 1) := by decide +kernel
theorem dX10_readClause_83 : decode cX10_readClause 83 = .ok (.iconst 0, 1) := by decide +kernel
theorem dX10_readClause_84 : decode cX10_readClause 84 = .ok (.istore_n 3, 1) := by decide +kernel
theorem dX10_readClause_85 : decode cX10_readClause 85 = .ok (.iload_n 3, 1) := by decide +kernel
theorem dX10_readClause_86 : decode cX10_readClause 86 = .ok (.bipush 8, 2) := by decide +kernel
theorem dX10_readClause_88 : decode cX10_readClause 88 = .ok (.if_icmp .ge 18, 3) := by decide +kernel
theorem dX10_readClause_91 : decode cX10_readClause 91 = .ok (.aload_n 0, 1) := by decide +kernel
theorem dX10_readClause_92 : decode cX10_readClause 92 = .ok (.getfield 43, 3) := by decide +kernel
theorem dX10_readClause_95 : decode cX10_readClause 95 = .ok (.iload_n 2, 1) := by decide +kernel
theorem dX10_readClause_96 : decode cX10_readClause 96 = .ok (.iload_n 3, 1) := by decide +kernel
theorem dX10_readClause_97 : decode cX10_readClause 97 = .ok (.iadd, 1) := by decide +kernel
theorem dX10_readClause_98 : decode cX10_readClause 98 = .ok (.iconst 0, 1) := by decide +kernel
theorem dX10_readClause_99 : decode cX10_readClause 99 = .ok (.iastore, 1) := by decide +kernel
theorem dX10_readClause_100 : decode cX10_readClause 100 = .ok (.iinc 3 1, 3) := by decide +kernel
theorem dX10_readClause_103 : decode cX10_readClause 103 = .ok (.goto (-18), 3) := by decide +kernel
theorem dX10_readClause_106 : decode cX10_readClause 106 = .ok (.aload_n 0, 1) := by decide +kernel
theorem dX10_readClause_107 : decode cX10_readClause 107 = .ok (.getfield 43, 3) := by decide +kernel
theorem dX10_readClause_110 : decode cX10_readClause 110 = .ok (.iload_n 2, 1) := by decide +kernel
theorem dX10_readClause_111 : decode cX10_readClause 111 = .ok (.iload_n 1, 1) := by decide +kernel
theorem dX10_readClause_112 : decode cX10_readClause 112 = .ok (.iastore, 1) := by decide +kernel
theorem dX10_readClause_113 : decode cX10_readClause 113 = .ok (.aload_n 0, 1) := by decide +kernel
theorem dX10_readClause_114 : decode cX10_readClause 114 = .ok (.dup, 1) := by decide +kernel
theorem dX10_readClause_115 : decode cX10_readClause 115 = .ok (.getfield 284, 3) := by decide +kernel
theorem dX10_readClause_118 : decode cX10_readClause 118 = .ok (.iconst 1, 1) := by decide +kernel
theorem dX10_readClause_119 : decode cX10_readClause 119 = .ok (.iadd, 1) := by decide +kernel
theorem dX10_readClause_120 : decode cX10_readClause 120 = .ok (.putfield 284, 3) := by decide +kernel
theorem dX10_readClause_123 : decode cX10_readClause 123 = .ok (.iload_n 1, 1) := by decide +kernel
theorem dX10_readClause_124 : decode cX10_readClause 124 = .ok (.iconst 2, 1) := by decide +kernel
theorem dX10_readClause_125 : decode cX10_readClause 125 = .ok (.if_icmp .ne 16, 3) := by decide +kernel
theorem dX10_readClause_128 : decode cX10_readClause 128 = .ok (.aload_n 0, 1) := by decide +kernel
theorem dX10_readClause_129 : decode cX10_readClause 129 = .ok (.getfield 43, 3) := by decide +kernel
theorem dX10_readClause_132 : decode cX10_readClause 132 = .ok (.iload_n 2, 1) := by decide +kernel
theorem dX10_readClause_133 : decode cX10_readClause 133 = .ok (.iconst 1, 1) := by decide +kernel
theorem dX10_readClause_134 : decode cX10_readClause 134 = .ok (.iadd, 1) := by decide +kernel
theorem dX10_readClause_135 : decode cX10_readClause 135 = .ok (.aload_n 0, 1) := by decide +kernel
theorem dX10_readClause_136 : decode cX10_readClause 136 = .ok (.iconst 3, 1) := by decide +kernel
theorem dX10_readClause_137 : decode cX10_readClause 137 = .ok (.invokevirtual 245, 3) := by decide +kernel
theorem dX10_readClause_140 : decode cX10_readClause 140 = .ok (.iastore, 1) := by decide +kernel
theorem dX10_readClause_141 : decode cX10_readClause 141 = .ok (.aload_n 0, 1) := by decide +kernel
theorem dX10_readClause_142 : decode cX10_readClause 142 = .ok (.getfield 43, 3) := by decide +kernel
theorem dX10_readClause_145 : decode cX10_readClause 145 = .ok (.iload_n 2, 1) := by decide +kernel
theorem dX10_readClause_146 : decode cX10_readClause 146 = .ok (.iconst 3, 1) := by decide +kernel
theorem dX10_readClause_147 : decode cX10_readClause 147 = .ok (.iadd, 1) := by decide +kernel
theorem dX10_readClause_148 : decode cX10_readClause 148 = .ok (.aload_n 0, 1) := by decide +kernel
theorem dX10_readClause_149 : decode cX10_readClause 149 = .ok (.getfield 191, 3) := by decide +kernel
theorem dX10_readClause_152 : decode cX10_readClause 152 = .ok (.iastore, 1) := by decide +kernel
theorem dX10_readClause_153 : decode cX10_readClause 153 = .ok (.aload_n 0, 1) := by decide +kernel
theorem dX10_readClause_154 : decode cX10_readClause 154 = .ok (.getfield 154, 3) := by decide +kernel
theorem dX10_readClause_157 : decode cX10_readClause 157 = .ok (.ifCond .ne 8, 3) := by decide +kernel
theorem dX10_readClause_160 : decode cX10_readClause 160 = .ok (.aload_n 0, 1) := by decide +kernel
theorem dX10_readClause_161 : decode cX10_readClause 161 = .ok (.iconst 0, 1) := by decide +kernel
theorem dX10_readClause_162 : decode cX10_readClause 162 = .ok (.invokevirtual 287, 3) := by decide +kernel
theorem dX10_readClause_165 : decode cX10_readClause 165 = .ok (.aload_n 0, 1) := by decide +kernel
theorem dX10_readClause_166 : decode cX10_readClause 166 = .ok (.getfield 43, 3) := by decide +kernel
theorem dX10_readClause_169 : decode cX10_readClause 169 = .ok (.iload_n 2, 1) := by decide +kernel
theorem dX10_readClause_170 : decode cX10_readClause 170 = .ok (.iconst 4, 1) := by decide +kernel
theorem dX10_readClause_171 : decode cX10_readClause 171 = .ok (.iadd, 1) := by decide +kernel
theorem dX10_readClause_172 : decode cX10_readClause 172 = .ok (.aload_n 0, 1) := by decide +kernel
theorem dX10_readClause_173 : decode cX10_readClause 173 = .ok (.getfield 191, 3) := by decide +kernel
theorem dX10_readClause_176 : decode cX10_readClause 176 = .ok (.iastore, 1) := by decide +kernel
theorem dX10_readClause_177 : decode cX10_readClause 177 = .ok (.iload_n 1, 1) := by decide +kernel
theorem dX10_readClause_178 : decode cX10_readClause 178 = .ok (.iconst 2, 1) := by decide +kernel
theorem dX10_readClause_179 : decode cX10_readClause 179 = .ok (.if_icmp .eq 45, 3) := by decide +kernel
theorem dX10_readClause_182 : decode cX10_readClause 182 = .ok (.aload_n 0, 1) := by decide +kernel
theorem dX10_readClause_183 : decode cX10_readClause 183 = .ok (.getfield 154, 3) := by decide +kernel
theorem dX10_readClause_186 : decode cX10_readClause 186 = .ok (.ifCond .ne 38, 3) := by decide +kernel
theorem dX10_readClause_189 : decode cX10_readClause 189 = .ok (.aload_n 0, 1) := by decide +kernel
theorem dX10_readClause_190 : decode cX10_readClause 190 = .ok (.aload_n 0, 1) := by decide +kernel
theorem dX10_readClause_191 : decode cX10_readClause 191 = .ok (.ldc2_w 290, 3) := by decide +kernel
theorem dX10_readClause_194 : decode cX10_readClause 194 = .ok (.invokevirtual 229, 3) := by decide +kernel
theorem dX10_readClause_197 : decode cX10_readClause 197 = .ok (.invokevirtual 187, 3) := by decide +kernel
theorem dX10_readClause_200 : decode cX10_readClause 200 = .ok (.aload_n 0, 1) := by decide +kernel
theorem dX10_readClause_201 : decode cX10_readClause 201 = .ok (.getfield 43, 3) := by decide +kernel
theorem dX10_readClause_204 : decode cX10_readClause 204 = .ok (.iload_n 2, 1) := by decide +kernel
theorem dX10_readClause_205 : decode cX10_readClause 205 = .ok (.iconst 1, 1) := by decide +kernel
theorem dX10_readClause_206 : decode cX10_readClause 206 = .ok (.iadd, 1) := by decide +kernel
theorem dX10_readClause_207 : decode cX10_readClause 207 = .ok (.aload_n 0, 1) := by decide +kernel
theorem dX10_readClause_208 : decode cX10_readClause 208 = .ok (.getfield 154, 3) := by decide +kernel
theorem dX10_readClause_211 : decode cX10_readClause 211 = .ok (.ifCond .eq 7, 3) := by decide +kernel
theorem dX10_readClause_214 : decode cX10_readClause 214 = .ok (.iconst 0, 1) := by decide +kernel
theorem dX10_readClause_215 : decode cX10_readClause 215 = .ok (.goto 8, 3) := by decide +kernel
theorem dX10_readClause_218 : decode cX10_readClause 218 = .ok (.aload_n 0, 1) := by decide +kernel
theorem dX10_readClause_219 : decode cX10_readClause 219 = .ok (.iconst 5, 1) := by decide +kernel
theorem dX10_readClause_220 : decode cX10_readClause 220 = .ok (.invokevirtual 245, 3) := by decide +kernel
theorem dX10_readClause_223 : decode cX10_readClause 223 = .ok (.iastore, 1) := by decide +kernel
theorem dX10_readClause_224 : decode cX10_readClause 224 = .ok (.aload_n 0, 1) := by decide +kernel
theorem dX10_readClause_225 : decode cX10_readClause 225 = .ok (.getfield 43, 3) := by decide +kernel
theorem dX10_readClause_228 : decode cX10_readClause 228 = .ok (.iload_n 2, 1) := by decide +kernel
theorem dX10_readClause_229 : decode cX10_readClause 229 = .ok (.iconst 2, 1) := by decide +kernel
theorem dX10_readClause_230 : decode cX10_readClause 230 = .ok (.iadd, 1) := by decide +kernel
theorem dX10_readClause_231 : decode cX10_readClause 231 = .ok (.iconst (-1), 1) := by decide +kernel
theorem dX10_readClause_232 : decode cX10_readClause 232 = .ok (.iastore, 1) := by decide +kernel
theorem dX10_readClause_233 : decode cX10_readClause 233 = .ok (.iload_n 1, 1) := by decide +kernel
theorem dX10_readClause_234 : decode cX10_readClause 234 = .ok (.iconst 1, 1) := by decide +kernel
theorem dX10_readClause_235 : decode cX10_readClause 235 = .ok (.if_icmp .eq 45, 3) := by decide +kernel
theorem dX10_readClause_238 : decode cX10_readClause 238 = .ok (.aload_n 0, 1) := by decide +kernel
theorem dX10_readClause_239 : decode cX10_readClause 239 = .ok (.getfield 154, 3) := by decide +kernel
theorem dX10_readClause_242 : decode cX10_readClause 242 = .ok (.ifCond .ne 38, 3) := by decide +kernel
theorem dX10_readClause_245 : decode cX10_readClause 245 = .ok (.aload_n 0, 1) := by decide +kernel
theorem dX10_readClause_246 : decode cX10_readClause 246 = .ok (.aload_n 0, 1) := by decide +kernel
theorem dX10_readClause_247 : decode cX10_readClause 247 = .ok (.ldc2_w 292, 3) := by decide +kernel
theorem dX10_readClause_250 : decode cX10_readClause 250 = .ok (.invokevirtual 229, 3) := by decide +kernel
theorem dX10_readClause_253 : decode cX10_readClause 253 = .ok (.invokevirtual 187, 3) := by decide +kernel
theorem dX10_readClause_256 : decode cX10_readClause 256 = .ok (.aload_n 0, 1) := by decide +kernel
theorem dX10_readClause_257 : decode cX10_readClause 257 = .ok (.getfield 43, 3) := by decide +kernel
theorem dX10_readClause_260 : decode cX10_readClause 260 = .ok (.iload_n 2, 1) := by decide +kernel
theorem dX10_readClause_261 : decode cX10_readClause 261 = .ok (.iconst 2, 1) := by decide +kernel
theorem dX10_readClause_262 : decode cX10_readClause 262 = .ok (.iadd, 1) := by decide +kernel
theorem dX10_readClause_263 : decode cX10_readClause 263 = .ok (.aload_n 0, 1) := by decide +kernel
theorem dX10_readClause_264 : decode cX10_readClause 264 = .ok (.getfield 154, 3) := by decide +kernel
theorem dX10_readClause_267 : decode cX10_readClause 267 = .ok (.ifCond .eq 7, 3) := by decide +kernel
theorem dX10_readClause_270 : decode cX10_readClause 270 = .ok (.iconst 0, 1) := by decide +kernel
theorem dX10_readClause_271 : decode cX10_readClause 271 = .ok (.goto 8, 3) := by decide +kernel
theorem dX10_readClause_274 : decode cX10_readClause 274 = .ok (.aload_n 0, 1) := by decide +kernel
theorem dX10_readClause_275 : decode cX10_readClause 275 = .ok (.iconst 5, 1) := by decide +kernel
theorem dX10_readClause_276 : decode cX10_readClause 276 = .ok (.invokevirtual 245, 3) := by decide +kernel
theorem dX10_readClause_279 : decode cX10_readClause 279 = .ok (.iastore, 1) := by decide +kernel
theorem dX10_readClause_280 : decode cX10_readClause 280 = .ok (.aload_n 0, 1) := by decide +kernel
theorem dX10_readClause_281 : decode cX10_readClause 281 = .ok (.getfield 43, 3) := by decide +kernel
theorem dX10_readClause_284 : decode cX10_readClause 284 = .ok (.iload_n 2, 1) := by decide +kernel
theorem dX10_readClause_285 : decode cX10_readClause 285 = .ok (.bipush 7, 2) := by decide +kernel
theorem dX10_readClause_287 : decode cX10_readClause 287 = .ok (.iadd, 1) := by decide +kernel
theorem dX10_readClause_288 : decode cX10_readClause 288 = .ok (.iconst 1, 1) := by decide +kernel
theorem dX10_readClause_289 : decode cX10_readClause 289 = .ok (.iastore, 1) := by decide +kernel
theorem dX10_readClause_290 : decode cX10_readClause 290 = .ok (.aload_n 0, 1) := by decide +kernel
theorem dX10_readClause_291 : decode cX10_readClause 291 = .ok (.getfield 154, 3) := by decide +kernel
theorem dX10_readClause_294 : decode cX10_readClause 294 = .ok (.ifCond .ne 75, 3) := by decide +kernel
theorem dX10_readClause_297 : decode cX10_readClause 297 = .ok (.aload_n 0, 1) := by decide +kernel
theorem dX10_readClause_298 : decode cX10_readClause 298 = .ok (.ldc2_w 294, 3) := by decide +kernel
theorem dX10_readClause_301 : decode cX10_readClause 301 = .ok (.invokevirtual 229, 3) := by decide +kernel
theorem dX10_readClause_304 : decode cX10_readClause 304 = .ok (.ifCond .eq 65, 3) := by decide +kernel
theorem dX10_readClause_307 : decode cX10_readClause 307 = .ok (.aload_n 0, 1) := by decide +kernel
theorem dX10_readClause_308 : decode cX10_readClause 308 = .ok (.invokevirtual 158, 3) := by decide +kernel
theorem dX10_readClause_311 : decode cX10_readClause 311 = .ok (.aload_n 0, 1) := by decide +kernel
theorem dX10_readClause_312 : decode cX10_readClause 312 = .ok (.getfield 174, 3) := by decide +kernel
theorem dX10_readClause_315 : decode cX10_readClause 315 = .ok (.iconst 2, 1) := by decide +kernel
theorem dX10_readClause_316 : decode cX10_readClause 316 = .ok (.if_icmp .ne 16, 3) := by decide +kernel
theorem dX10_readClause_319 : decode cX10_readClause 319 = .ok (.aload_n 0, 1) := by decide +kernel
theorem dX10_readClause_320 : decode cX10_readClause 320 = .ok (.getfield 164, 3) := by decide +kernel
theorem dX10_readClause_323 : decode cX10_readClause 323 = .ok (.lconst 0, 1) := by decide +kernel
theorem dX10_readClause_324 : decode cX10_readClause 324 = .ok (.lcmp, 1) := by decide +kernel
theorem dX10_readClause_325 : decode cX10_readClause 325 = .ok (.ifCond .ne 7, 3) := by decide +kernel
theorem dX10_readClause_328 : decode cX10_readClause 328 = .ok (.iconst 1, 1) := by decide +kernel
theorem dX10_readClause_329 : decode cX10_readClause 329 = .ok (.goto 4, 3) := by decide +kernel
theorem dX10_readClause_332 : decode cX10_readClause 332 = .ok (.iconst 0, 1) := by decide +kernel
theorem dX10_readClause_333 : decode cX10_readClause 333 = .ok (.istore_n 3, 1) := by decide +kernel
theorem dX10_readClause_334 : decode cX10_readClause 334 = .ok (.iload_n 3, 1) := by decide +kernel
theorem dX10_readClause_335 : decode cX10_readClause 335 = .ok (.ifCond .eq 8, 3) := by decide +kernel
theorem dX10_readClause_338 : decode cX10_readClause 338 = .ok (.aload_n 0, 1) := by decide +kernel
theorem dX10_readClause_339 : decode cX10_readClause 339 = .ok (.iconst 0, 1) := by decide +kernel
theorem dX10_readClause_340 : decode cX10_readClause 340 = .ok (.invokevirtual 187, 3) := by decide +kernel
theorem dX10_readClause_343 : decode cX10_readClause 343 = .ok (.aload_n 0, 1) := by decide +kernel
theorem dX10_readClause_344 : decode cX10_readClause 344 = .ok (.getfield 43, 3) := by decide +kernel
theorem dX10_readClause_347 : decode cX10_readClause 347 = .ok (.iload_n 2, 1) := by decide +kernel
theorem dX10_readClause_348 : decode cX10_readClause 348 = .ok (.bipush 7, 2) := by decide +kernel
theorem dX10_readClause_350 : decode cX10_readClause 350 = .ok (.iadd, 1) := by decide +kernel
theorem dX10_readClause_351 : decode cX10_readClause 351 = .ok (.aload_n 0, 1) := by decide +kernel
theorem dX10_readClause_352 : decode cX10_readClause 352 = .ok (.getfield 154, 3) := by decide +kernel
theorem dX10_readClause_355 : decode cX10_readClause 355 = .ok (.ifCond .eq 7, 3) := by decide +kernel
theorem dX10_readClause_358 : decode cX10_readClause 358 = .ok (.iconst 0, 1) := by decide +kernel
theorem dX10_readClause_359 : decode cX10_readClause 359 = .ok (.goto 9, 3) := by decide +kernel
theorem dX10_readClause_362 : decode cX10_readClause 362 = .ok (.aload_n 0, 1) := by decide +kernel
theorem dX10_readClause_363 : decode cX10_readClause 363 = .ok (.bipush 20, 2) := by decide +kernel
theorem dX10_readClause_365 : decode cX10_readClause 365 = .ok (.invokevirtual 245, 3) := by decide +kernel
theorem dX10_readClause_368 : decode cX10_readClause 368 = .ok (.iastore, 1) := by decide +kernel
theorem dX10_readClause_369 : decode cX10_readClause 369 = .ok (.aload_n 0, 1) := by decide +kernel
theorem dX10_readClause_370 : decode cX10_readClause 370 = .ok (.getfield 43, 3) := by decide +kernel
theorem dX10_readClause_373 : decode cX10_readClause 373 = .ok (.iload_n 2, 1) := by decide +kernel
theorem dX10_readClause_374 : decode cX10_readClause 374 = .ok (.iconst 5, 1) := by decide +kernel
theorem dX10_readClause_375 : decode cX10_readClause 375 = .ok (.iadd, 1) := by decide +kernel
theorem dX10_readClause_376 : decode cX10_readClause 376 = .ok (.aload_n 0, 1) := by decide +kernel
theorem dX10_readClause_377 : decode cX10_readClause 377 = .ok (.getfield 191, 3) := by decide +kernel
theorem dX10_readClause_380 : decode cX10_readClause 380 = .ok (.iastore, 1) := by decide +kernel
theorem dX10_readClause_381 : decode cX10_readClause 381 = .ok (.aload_n 0, 1) := by decide +kernel
theorem dX10_readClause_382 : decode cX10_readClause 382 = .ok (.getfield 154, 3) := by decide +kernel
theorem dX10_readClause_385 : decode cX10_readClause 385 = .ok (.ifCond .ne 22, 3) := by decide +kernel
theorem dX10_readClause_388 : decode cX10_readClause 388 = .ok (.aload_n 0, 1) := by decide +kernel
theorem dX10_readClause_389 : decode cX10_readClause 389 = .ok (.ldc2_w 296, 3) := by decide +kernel
theorem dX10_readClause_392 : decode cX10_readClause 392 = .ok (.invokevirtual 229, 3) := by decide +kernel
theorem dX10_readClause_395 : decode cX10_readClause 395 = .ok (.ifCond .eq 12, 3) := by decide +kernel
theorem dX10_readClause_398 : decode cX10_readClause 398 = .ok (.aload_n 0, 1) := by decide +kernel
theorem dX10_readClause_399 : decode cX10_readClause 399 = .ok (.invokevirtual 158, 3) := by decide +kernel
theorem dX10_readClause_402 : decode cX10_readClause 402 = .ok (.aload_n 0, 1) := by decide +kernel
theorem dX10_readClause_403 : decode cX10_readClause 403 = .ok (.iconst 1, 1) := by decide +kernel
theorem dX10_readClause_404 : decode cX10_readClause 404 = .ok (.invokevirtual 287, 3) := by decide +kernel
theorem dX10_readClause_407 : decode cX10_readClause 407 = .ok (.aload_n 0, 1) := by decide +kernel
theorem dX10_readClause_408 : decode cX10_readClause 408 = .ok (.getfield 43, 3) := by decide +kernel
theorem dX10_readClause_411 : decode cX10_readClause 411 = .ok (.iload_n 2, 1) := by decide +kernel
theorem dX10_readClause_412 : decode cX10_readClause 412 = .ok (.bipush 6, 2) := by decide +kernel
theorem dX10_readClause_414 : decode cX10_readClause 414 = .ok (.iadd, 1) := by decide +kernel
theorem dX10_readClause_415 : decode cX10_readClause 415 = .ok (.aload_n 0, 1) := by decide +kernel
theorem dX10_readClause_416 : decode cX10_readClause 416 = .ok (.getfield 191, 3) := by decide +kernel
theorem dX10_readClause_419 : decode cX10_readClause 419 = .ok (.iastore, 1) := by decide +kernel
theorem dX10_readClause_420 : decode cX10_readClause 420 = .ok (.return_, 1) := by decide +kernel
theorem dX10_partOf_0 : decode cX10_partOf 0 = .ok (.iload_n 2, 1) := by decide +kernel
theorem dX10_partOf_1 : decode cX10_partOf 1 = .ok (.bipush 6, 2) := by decide +kernel
theorem dX10_partOf_3 : decode cX10_partOf 3 = .ok (.irem, 1) := by decide +kernel
theorem dX10_partOf_4 : decode cX10_partOf 4 = .ok (.istore_n 3, 1) := by decide +kernel
theorem dX10_partOf_5 : decode cX10_partOf 5 = .ok (.iload_n 1, 1) := by decide +kernel
theorem dX10_partOf_6 : decode cX10_partOf 6 = .ok (.iconst 4, 1) := by decide +kernel
theorem dX10_partOf_7 : decode cX10_partOf 7 = .ok (.if_icmp .ne 11, 3) := by decide +kernel
theorem dX10_partOf_10 : decode cX10_partOf 10 = .ok (.aload_n 0, 1) := by decide +kernel
theorem dX10_partOf_11 : decode cX10_partOf 11 = .ok (.getfield 298, 3) := by decide +kernel
theorem dX10_partOf_14 : decode cX10_partOf 14 = .ok (.i2l, 1) := by decide +kernel
theorem dX10_partOf_15 : decode cX10_partOf 15 = .ok (.goto 56, 3) := by decide +kernel
theorem dX10_partOf_18 : decode cX10_partOf 18 = .ok (.aload_n 0, 1) := by decide +kernel
theorem dX10_partOf_19 : decode cX10_partOf 19 = .ok (.iload_n 3, 1) := by decide +kernel
theorem dX10_partOf_20 : decode cX10_partOf 20 = .ok (.invokevirtual 102, 3) := by decide +kernel
theorem dX10_partOf_23 : decode cX10_partOf 23 = .ok (.ifCond .ne 7, 3) := by decide +kernel
theorem dX10_partOf_26 : decode cX10_partOf 26 = .ok (.lconst 0, 1) := by decide +kernel
theorem dX10_partOf_27 : decode cX10_partOf 27 = .ok (.goto 44, 3) := by decide +kernel
theorem dX10_partOf_30 : decode cX10_partOf 30 = .ok (.iload_n 1, 1) := by decide +kernel
theorem dX10_partOf_31 : decode cX10_partOf 31 = .ok (.iconst 1, 1) := by decide +kernel
theorem dX10_partOf_32 : decode cX10_partOf 32 = .ok (.if_icmp .ne 12, 3) := by decide +kernel
theorem dX10_partOf_35 : decode cX10_partOf 35 = .ok (.aload_n 0, 1) := by decide +kernel
theorem dX10_partOf_36 : decode cX10_partOf 36 = .ok (.iload_n 3, 1) := by decide +kernel
theorem dX10_partOf_37 : decode cX10_partOf 37 = .ok (.invokevirtual 99, 3) := by decide +kernel
theorem dX10_partOf_40 : decode cX10_partOf 40 = .ok (.i2l, 1) := by decide +kernel
theorem dX10_partOf_41 : decode cX10_partOf 41 = .ok (.goto 30, 3) := by decide +kernel
theorem dX10_partOf_44 : decode cX10_partOf 44 = .ok (.iload_n 1, 1) := by decide +kernel
theorem dX10_partOf_45 : decode cX10_partOf 45 = .ok (.iconst 2, 1) := by decide +kernel
theorem dX10_partOf_46 : decode cX10_partOf 46 = .ok (.if_icmp .ne 15, 3) := by decide +kernel
theorem dX10_partOf_49 : decode cX10_partOf 49 = .ok (.aload_n 0, 1) := by decide +kernel
theorem dX10_partOf_50 : decode cX10_partOf 50 = .ok (.getfield 13, 3) := by decide +kernel
theorem dX10_partOf_53 : decode cX10_partOf 53 = .ok (.iconst 4, 1) := by decide +kernel
theorem dX10_partOf_54 : decode cX10_partOf 54 = .ok (.iload_n 3, 1) := by decide +kernel
theorem dX10_partOf_55 : decode cX10_partOf 55 = .ok (.iadd, 1) := by decide +kernel
theorem dX10_partOf_56 : decode cX10_partOf 56 = .ok (.iaload, 1) := by decide +kernel
theorem dX10_partOf_57 : decode cX10_partOf 57 = .ok (.i2l, 1) := by decide +kernel
theorem dX10_partOf_58 : decode cX10_partOf 58 = .ok (.goto 13, 3) := by decide +kernel
theorem dX10_partOf_61 : decode cX10_partOf 61 = .ok (.aload_n 0, 1) := by decide +kernel
theorem dX10_partOf_62 : decode cX10_partOf 62 = .ok (.iload_n 3, 1) := by decide +kernel
theorem dX10_partOf_63 : decode cX10_partOf 63 = .ok (.iload_n 2, 1) := by decide +kernel
theorem dX10_partOf_64 : decode cX10_partOf 64 = .ok (.bipush 6, 2) := by decide +kernel
theorem dX10_partOf_66 : decode cX10_partOf 66 = .ok (.idiv, 1) := by decide +kernel
theorem dX10_partOf_67 : decode cX10_partOf 67 = .ok (.invokevirtual 112, 3) := by decide +kernel
theorem dX10_partOf_70 : decode cX10_partOf 70 = .ok (.i2l, 1) := by decide +kernel
theorem dX10_partOf_71 : decode cX10_partOf 71 = .ok (.lreturn, 1) := by decide +kernel
theorem dX10_reckon_0 : decode cX10_reckon 0 = .ok (.iload_n 1, 1) := by decide +kernel
theorem dX10_reckon_1 : decode cX10_reckon 1 = .ok (.tableswitch 112 20 25 #[39, 44, 49, 54, 86, 99], 39) := by decide +kernel
theorem dX10_reckon_40 : decode cX10_reckon 40 = .ok (.lload_n 2, 1) := by decide +kernel
theorem dX10_reckon_41 : decode cX10_reckon 41 = .ok (.lload 4, 2) := by decide +kernel
theorem dX10_reckon_43 : decode cX10_reckon 43 = .ok (.ladd, 1) := by decide +kernel
theorem dX10_reckon_44 : decode cX10_reckon 44 = .ok (.lreturn, 1) := by decide +kernel
theorem dX10_reckon_45 : decode cX10_reckon 45 = .ok (.lload_n 2, 1) := by decide +kernel
theorem dX10_reckon_46 : decode cX10_reckon 46 = .ok (.lload 4, 2) := by decide +kernel
theorem dX10_reckon_48 : decode cX10_reckon 48 = .ok (.lsub, 1) := by decide +kernel
theorem dX10_reckon_49 : decode cX10_reckon 49 = .ok (.lreturn, 1) := by decide +kernel
theorem dX10_reckon_50 : decode cX10_reckon 50 = .ok (.lload_n 2, 1) := by decide +kernel
theorem dX10_reckon_51 : decode cX10_reckon 51 = .ok (.lload 4, 2) := by decide +kernel
theorem dX10_reckon_53 : decode cX10_reckon 53 = .ok (.lmul, 1) := by decide +kernel
theorem dX10_reckon_54 : decode cX10_reckon 54 = .ok (.lreturn, 1) := by decide +kernel
theorem dX10_reckon_55 : decode cX10_reckon 55 = .ok (.aload_n 0, 1) := by decide +kernel
theorem dX10_reckon_56 : decode cX10_reckon 56 = .ok (.lload 4, 2) := by decide +kernel
theorem dX10_reckon_58 : decode cX10_reckon 58 = .ok (.lconst 0, 1) := by decide +kernel
theorem dX10_reckon_59 : decode cX10_reckon 59 = .ok (.lcmp, 1) := by decide +kernel
theorem dX10_reckon_60 : decode cX10_reckon 60 = .ok (.ifCond .ne 7, 3) := by decide +kernel
theorem dX10_reckon_63 : decode cX10_reckon 63 = .ok (.iconst 1, 1) := by decide +kernel
theorem dX10_reckon_64 : decode cX10_reckon 64 = .ok (.goto 4, 3) := by decide +kernel
theorem dX10_reckon_67 : decode cX10_reckon 67 = .ok (.iconst 0, 1) := by decide +kernel
theorem dX10_reckon_68 : decode cX10_reckon 68 = .ok (.putfield 301, 3) := by decide +kernel
theorem dX10_reckon_71 : decode cX10_reckon 71 = .ok (.aload_n 0, 1) := by decide +kernel
theorem dX10_reckon_72 : decode cX10_reckon 72 = .ok (.getfield 301, 3) := by decide +kernel
theorem dX10_reckon_75 : decode cX10_reckon 75 = .ok (.ifCond .eq 7, 3) := by decide +kernel
theorem dX10_reckon_78 : decode cX10_reckon 78 = .ok (.lconst 0, 1) := by decide +kernel
theorem dX10_reckon_79 : decode cX10_reckon 79 = .ok (.goto 7, 3) := by decide +kernel
theorem dX10_reckon_82 : decode cX10_reckon 82 = .ok (.lload_n 2, 1) := by decide +kernel
theorem dX10_reckon_83 : decode cX10_reckon 83 = .ok (.lload 4, 2) := by decide +kernel
theorem dX10_reckon_85 : decode cX10_reckon 85 = .ok (.ldiv, 1) := by decide +kernel
theorem dX10_reckon_86 : decode cX10_reckon 86 = .ok (.lreturn, 1) := by decide +kernel
theorem dX10_reckon_87 : decode cX10_reckon 87 = .ok (.lload_n 2, 1) := by decide +kernel
theorem dX10_reckon_88 : decode cX10_reckon 88 = .ok (.lload 4, 2) := by decide +kernel
theorem dX10_reckon_90 : decode cX10_reckon 90 = .ok (.lcmp, 1) := by decide +kernel
theorem dX10_reckon_91 : decode cX10_reckon 91 = .ok (.ifCond .ge 7, 3) := by decide +kernel
theorem dX10_reckon_94 : decode cX10_reckon 94 = .ok (.lconst 1, 1) := by decide +kernel
theorem dX10_reckon_95 : decode cX10_reckon 95 = .ok (.goto 4, 3) := by decide +kernel
theorem dX10_reckon_98 : decode cX10_reckon 98 = .ok (.lconst 0, 1) := by decide +kernel
theorem dX10_reckon_99 : decode cX10_reckon 99 = .ok (.lreturn, 1) := by decide +kernel
theorem dX10_reckon_100 : decode cX10_reckon 100 = .ok (.lload_n 2, 1) := by decide +kernel
theorem dX10_reckon_101 : decode cX10_reckon 101 = .ok (.lload 4, 2) := by decide +kernel
theorem dX10_reckon_103 : decode cX10_reckon 103 = .ok (.lcmp, 1) := by decide +kernel
theorem dX10_reckon_104 : decode cX10_reckon 104 = .ok (.ifCond .le 7, 3) := by decide +kernel
theorem dX10_reckon_107 : decode cX10_reckon 107 = .ok (.lconst 1, 1) := by decide +kernel
theorem dX10_reckon_108 : decode cX10_reckon 108 = .ok (.goto 4, 3) := by decide +kernel
theorem dX10_reckon_111 : decode cX10_reckon 111 = .ok (.lconst 0, 1) := by decide +kernel
theorem dX10_reckon_112 : decode cX10_reckon 112 = .ok (.lreturn, 1) := by decide +kernel
theorem dX10_reckon_113 : decode cX10_reckon 113 = .ok (.lload_n 2, 1) := by decide +kernel
theorem dX10_reckon_114 : decode cX10_reckon 114 = .ok (.lload 4, 2) := by decide +kernel
theorem dX10_reckon_116 : decode cX10_reckon 116 = .ok (.lcmp, 1) := by decide +kernel
theorem dX10_reckon_117 : decode cX10_reckon 117 = .ok (.ifCond .ne 7, 3) := by decide +kernel
theorem dX10_reckon_120 : decode cX10_reckon 120 = .ok (.lconst 1, 1) := by decide +kernel
theorem dX10_reckon_121 : decode cX10_reckon 121 = .ok (.goto 4, 3) := by decide +kernel
theorem dX10_reckon_124 : decode cX10_reckon 124 = .ok (.lconst 0, 1) := by decide +kernel
theorem dX10_reckon_125 : decode cX10_reckon 125 = .ok (.lreturn, 1) := by decide +kernel
theorem dX10_reckonAll_0 : decode cX10_reckonAll 0 = .ok (.aload_n 0, 1) := by decide +kernel
theorem dX10_reckonAll_1 : decode cX10_reckonAll 1 = .ok (.iconst 0, 1) := by decide +kernel
theorem dX10_reckonAll_2 : decode cX10_reckonAll 2 = .ok (.putfield 301, 3) := by decide +kernel
theorem dX10_reckonAll_5 : decode cX10_reckonAll 5 = .ok (.iconst 0, 1) := by decide +kernel
theorem dX10_reckonAll_6 : decode cX10_reckonAll 6 = .ok (.istore_n 3, 1) := by decide +kernel
theorem dX10_reckonAll_7 : decode cX10_reckonAll 7 = .ok (.iload_n 1, 1) := by decide +kernel
theorem dX10_reckonAll_8 : decode cX10_reckonAll 8 = .ok (.istore 4, 2) := by decide +kernel
theorem dX10_reckonAll_10 : decode cX10_reckonAll 10 = .ok (.iload 4, 2) := by decide +kernel
theorem dX10_reckonAll_12 : decode cX10_reckonAll 12 = .ok (.iload_n 2, 1) := by decide +kernel
theorem dX10_reckonAll_13 : decode cX10_reckonAll 13 = .ok (.if_icmp .ge 211, 3) := by decide +kernel
theorem dX10_reckonAll_16 : decode cX10_reckonAll 16 = .ok (.aload_n 0, 1) := by decide +kernel
theorem dX10_reckonAll_17 : decode cX10_reckonAll 17 = .ok (.getfield 301, 3) := by decide +kernel
theorem dX10_reckonAll_20 : decode cX10_reckonAll 20 = .ok (.ifCond .ne 204, 3) := by decide +kernel
theorem dX10_reckonAll_23 : decode cX10_reckonAll 23 = .ok (.aload_n 0, 1) := by decide +kernel
theorem dX10_reckonAll_24 : decode cX10_reckonAll 24 = .ok (.getfield 46, 3) := by decide +kernel
theorem dX10_reckonAll_27 : decode cX10_reckonAll 27 = .ok (.iload 4, 2) := by decide +kernel
theorem dX10_reckonAll_29 : decode cX10_reckonAll 29 = .ok (.iaload, 1) := by decide +kernel
theorem dX10_reckonAll_30 : decode cX10_reckonAll 30 = .ok (.istore 5, 2) := by decide +kernel
theorem dX10_reckonAll_32 : decode cX10_reckonAll 32 = .ok (.aload_n 0, 1) := by decide +kernel
theorem dX10_reckonAll_33 : decode cX10_reckonAll 33 = .ok (.getfield 49, 3) := by decide +kernel
theorem dX10_reckonAll_36 : decode cX10_reckonAll 36 = .ok (.iload 4, 2) := by decide +kernel
theorem dX10_reckonAll_38 : decode cX10_reckonAll 38 = .ok (.iaload, 1) := by decide +kernel
theorem dX10_reckonAll_39 : decode cX10_reckonAll 39 = .ok (.istore 6, 2) := by decide +kernel
theorem dX10_reckonAll_41 : decode cX10_reckonAll 41 = .ok (.iinc 4 1, 3) := by decide +kernel
theorem dX10_reckonAll_44 : decode cX10_reckonAll 44 = .ok (.iload 5, 2) := by decide +kernel
theorem dX10_reckonAll_46 : decode cX10_reckonAll 46 = .ok (.bipush 20, 2) := by decide +kernel
theorem dX10_reckonAll_48 : decode cX10_reckonAll 48 = .ok (.if_icmp .ge 34, 3) := by decide +kernel
theorem dX10_reckonAll_51 : decode cX10_reckonAll 51 = .ok (.aload_n 0, 1) := by decide +kernel
theorem dX10_reckonAll_52 : decode cX10_reckonAll 52 = .ok (.getfield 58, 3) := by decide +kernel
theorem dX10_reckonAll_55 : decode cX10_reckonAll 55 = .ok (.iload_n 3, 1) := by decide +kernel
theorem dX10_reckonAll_56 : decode cX10_reckonAll 56 = .ok (.iload 5, 2) := by decide +kernel
theorem dX10_reckonAll_58 : decode cX10_reckonAll 58 = .ok (.ifCond .ne 9, 3) := by decide +kernel
theorem dX10_reckonAll_61 : decode cX10_reckonAll 61 = .ok (.iload 6, 2) := by decide +kernel
theorem dX10_reckonAll_63 : decode cX10_reckonAll 63 = .ok (.i2l, 1) := by decide +kernel
theorem dX10_reckonAll_64 : decode cX10_reckonAll 64 = .ok (.goto 11, 3) := by decide +kernel
theorem dX10_reckonAll_67 : decode cX10_reckonAll 67 = .ok (.aload_n 0, 1) := by decide +kernel
theorem dX10_reckonAll_68 : decode cX10_reckonAll 68 = .ok (.iload 5, 2) := by decide +kernel
theorem dX10_reckonAll_70 : decode cX10_reckonAll 70 = .ok (.iload 6, 2) := by decide +kernel
theorem dX10_reckonAll_72 : decode cX10_reckonAll 72 = .ok (.invokevirtual 304, 3) := by decide +kernel
theorem dX10_reckonAll_75 : decode cX10_reckonAll 75 = .ok (.lastore, 1) := by decide +kernel
theorem dX10_reckonAll_76 : decode cX10_reckonAll 76 = .ok (.iinc 3 1, 3) := by decide +kernel
theorem dX10_reckonAll_79 : decode cX10_reckonAll 79 = .ok (.goto 142, 3) := by decide +kernel
theorem dX10_reckonAll_82 : decode cX10_reckonAll 82 = .ok (.iload 5, 2) := by decide +kernel
theorem dX10_reckonAll_84 : decode cX10_reckonAll 84 = .ok (.bipush 27, 2) := by decide +kernel
theorem dX10_reckonAll_86 : decode cX10_reckonAll 86 = .ok (.if_icmp .ge 73, 3) := by decide +kernel
theorem dX10_reckonAll_89 : decode cX10_reckonAll 89 = .ok (.iinc 3 (-1), 3) := by decide +kernel
theorem dX10_reckonAll_92 : decode cX10_reckonAll 92 = .ok (.aload_n 0, 1) := by decide +kernel
theorem dX10_reckonAll_93 : decode cX10_reckonAll 93 = .ok (.getfield 58, 3) := by decide +kernel
theorem dX10_reckonAll_96 : decode cX10_reckonAll 96 = .ok (.iload_n 3, 1) := by decide +kernel
theorem dX10_reckonAll_97 : decode cX10_reckonAll 97 = .ok (.iconst 1, 1) := by decide +kernel
theorem dX10_reckonAll_98 : decode cX10_reckonAll 98 = .ok (.isub, 1) := by decide +kernel
theorem dX10_reckonAll_99 : decode cX10_reckonAll 99 = .ok (.aload_n 0, 1) := by decide +kernel
theorem dX10_reckonAll_100 : decode cX10_reckonAll 100 = .ok (.iload 5, 2) := by decide +kernel
theorem dX10_reckonAll_102 : decode cX10_reckonAll 102 = .ok (.aload_n 0, 1) := by decide +kernel
theorem dX10_reckonAll_103 : decode cX10_reckonAll 103 = .ok (.getfield 58, 3) := by decide +kernel
theorem dX10_reckonAll_106 : decode cX10_reckonAll 106 = .ok (.iload_n 3, 1) := by decide +kernel
theorem dX10_reckonAll_107 : decode cX10_reckonAll 107 = .ok (.iconst 1, 1) := by decide +kernel
theorem dX10_reckonAll_108 : decode cX10_reckonAll 108 = .ok (.isub, 1) := by decide +kernel
theorem dX10_reckonAll_109 : decode cX10_reckonAll 109 = .ok (.laload, 1) := by decide +kernel
theorem dX10_reckonAll_110 : decode cX10_reckonAll 110 = .ok (.aload_n 0, 1) := by decide +kernel
theorem dX10_reckonAll_111 : decode cX10_reckonAll 111 = .ok (.getfield 58, 3) := by decide +kernel
theorem dX10_reckonAll_114 : decode cX10_reckonAll 114 = .ok (.iload_n 3, 1) := by decide +kernel
theorem dX10_reckonAll_115 : decode cX10_reckonAll 115 = .ok (.laload, 1) := by decide +kernel
theorem dX10_reckonAll_116 : decode cX10_reckonAll 116 = .ok (.invokevirtual 308, 3) := by decide +kernel
theorem dX10_reckonAll_119 : decode cX10_reckonAll 119 = .ok (.lastore, 1) := by decide +kernel
theorem dX10_reckonAll_120 : decode cX10_reckonAll 120 = .ok (.aload_n 0, 1) := by decide +kernel
theorem dX10_reckonAll_121 : decode cX10_reckonAll 121 = .ok (.aload_n 0, 1) := by decide +kernel
theorem dX10_reckonAll_122 : decode cX10_reckonAll 122 = .ok (.getfield 301, 3) := by decide +kernel
theorem dX10_reckonAll_125 : decode cX10_reckonAll 125 = .ok (.ifCond .ne 23, 3) := by decide +kernel
theorem dX10_reckonAll_128 : decode cX10_reckonAll 128 = .ok (.aload_n 0, 1) := by decide +kernel
theorem dX10_reckonAll_129 : decode cX10_reckonAll 129 = .ok (.getfield 58, 3) := by decide +kernel
theorem dX10_reckonAll_132 : decode cX10_reckonAll 132 = .ok (.iload_n 3, 1) := by decide +kernel
theorem dX10_reckonAll_133 : decode cX10_reckonAll 133 = .ok (.iconst 1, 1) := by decide +kernel
theorem dX10_reckonAll_134 : decode cX10_reckonAll 134 = .ok (.isub, 1) := by decide +kernel
theorem dX10_reckonAll_135 : decode cX10_reckonAll 135 = .ok (.laload, 1) := by decide +kernel
theorem dX10_reckonAll_136 : decode cX10_reckonAll 136 = .ok (.ldc2_w 312, 3) := by decide +kernel
theorem dX10_reckonAll_139 : decode cX10_reckonAll 139 = .ok (.ldc2_w 314, 3) := by decide +kernel
theorem dX10_reckonAll_142 : decode cX10_reckonAll 142 = .ok (.invokestatic 83, 3) := by decide +kernel
theorem dX10_reckonAll_145 : decode cX10_reckonAll 145 = .ok (.ifCond .ne 7, 3) := by decide +kernel
theorem dX10_reckonAll_148 : decode cX10_reckonAll 148 = .ok (.iconst 1, 1) := by decide +kernel
theorem dX10_reckonAll_149 : decode cX10_reckonAll 149 = .ok (.goto 4, 3) := by decide +kernel
theorem dX10_reckonAll_152 : decode cX10_reckonAll 152 = .ok (.iconst 0, 1) := by decide +kernel
theorem dX10_reckonAll_153 : decode cX10_reckonAll 153 = .ok (.putfield 301, 3) := by decide +kernel
theorem dX10_reckonAll_156 : decode cX10_reckonAll 156 = .ok (.goto 65, 3) := by decide +kernel
theorem dX10_reckonAll_159 : decode cX10_reckonAll 159 = .ok (.iload 5, 2) := by decide +kernel
theorem dX10_reckonAll_161 : decode cX10_reckonAll 161 = .ok (.bipush 27, 2) := by decide +kernel
theorem dX10_reckonAll_163 : decode cX10_reckonAll 163 = .ok (.if_icmp .ne 24, 3) := by decide +kernel
theorem dX10_reckonAll_166 : decode cX10_reckonAll 166 = .ok (.aload_n 0, 1) := by decide +kernel
theorem dX10_reckonAll_167 : decode cX10_reckonAll 167 = .ok (.getfield 58, 3) := by decide +kernel
theorem dX10_reckonAll_170 : decode cX10_reckonAll 170 = .ok (.iload_n 3, 1) := by decide +kernel
theorem dX10_reckonAll_171 : decode cX10_reckonAll 171 = .ok (.iconst 1, 1) := by decide +kernel
theorem dX10_reckonAll_172 : decode cX10_reckonAll 172 = .ok (.isub, 1) := by decide +kernel
theorem dX10_reckonAll_173 : decode cX10_reckonAll 173 = .ok (.lconst 1, 1) := by decide +kernel
theorem dX10_reckonAll_174 : decode cX10_reckonAll 174 = .ok (.aload_n 0, 1) := by decide +kernel
theorem dX10_reckonAll_175 : decode cX10_reckonAll 175 = .ok (.getfield 58, 3) := by decide +kernel
theorem dX10_reckonAll_178 : decode cX10_reckonAll 178 = .ok (.iload_n 3, 1) := by decide +kernel
theorem dX10_reckonAll_179 : decode cX10_reckonAll 179 = .ok (.iconst 1, 1) := by decide +kernel
theorem dX10_reckonAll_180 : decode cX10_reckonAll 180 = .ok (.isub, 1) := by decide +kernel
theorem dX10_reckonAll_181 : decode cX10_reckonAll 181 = .ok (.laload, 1) := by decide +kernel
theorem dX10_reckonAll_182 : decode cX10_reckonAll 182 = .ok (.lsub, 1) := by decide +kernel
theorem dX10_reckonAll_183 : decode cX10_reckonAll 183 = .ok (.lastore, 1) := by decide +kernel
theorem dX10_reckonAll_184 : decode cX10_reckonAll 184 = .ok (.goto 37, 3) := by decide +kernel
theorem dX10_reckonAll_187 : decode cX10_reckonAll 187 = .ok (.aload_n 0, 1) := by decide +kernel
theorem dX10_reckonAll_188 : decode cX10_reckonAll 188 = .ok (.getfield 58, 3) := by decide +kernel
theorem dX10_reckonAll_191 : decode cX10_reckonAll 191 = .ok (.iload_n 3, 1) := by decide +kernel
theorem dX10_reckonAll_192 : decode cX10_reckonAll 192 = .ok (.iconst 1, 1) := by decide +kernel
theorem dX10_reckonAll_193 : decode cX10_reckonAll 193 = .ok (.isub, 1) := by decide +kernel
theorem dX10_reckonAll_194 : decode cX10_reckonAll 194 = .ok (.laload, 1) := by decide +kernel
theorem dX10_reckonAll_195 : decode cX10_reckonAll 195 = .ok (.iload 5, 2) := by decide +kernel
theorem dX10_reckonAll_197 : decode cX10_reckonAll 197 = .ok (.bipush 28, 2) := by decide +kernel
theorem dX10_reckonAll_199 : decode cX10_reckonAll 199 = .ok (.if_icmp .ne 7, 3) := by decide +kernel
theorem dX10_reckonAll_202 : decode cX10_reckonAll 202 = .ok (.lconst 0, 1) := by decide +kernel
theorem dX10_reckonAll_203 : decode cX10_reckonAll 203 = .ok (.goto 4, 3) := by decide +kernel
theorem dX10_reckonAll_206 : decode cX10_reckonAll 206 = .ok (.lconst 1, 1) := by decide +kernel
theorem dX10_reckonAll_207 : decode cX10_reckonAll 207 = .ok (.lcmp, 1) := by decide +kernel
theorem dX10_reckonAll_208 : decode cX10_reckonAll 208 = .ok (.ifCond .ne 10, 3) := by decide +kernel
theorem dX10_reckonAll_211 : decode cX10_reckonAll 211 = .ok (.iload 6, 2) := by decide +kernel
theorem dX10_reckonAll_213 : decode cX10_reckonAll 213 = .ok (.istore 4, 2) := by decide +kernel
theorem dX10_reckonAll_215 : decode cX10_reckonAll 215 = .ok (.goto 6, 3) := by decide +kernel
theorem dX10_reckonAll_218 : decode cX10_reckonAll 218 = .ok (.iinc 3 (-1), 3) := by decide +kernel
theorem dX10_reckonAll_221 : decode cX10_reckonAll 221 = .ok (.goto (-211), 3) := by decide +kernel
theorem dX10_reckonAll_224 : decode cX10_reckonAll 224 = .ok (.aload_n 0, 1) := by decide +kernel
theorem dX10_reckonAll_225 : decode cX10_reckonAll 225 = .ok (.iload_n 3, 1) := by decide +kernel
theorem dX10_reckonAll_226 : decode cX10_reckonAll 226 = .ok (.ifCond .le 12, 3) := by decide +kernel
theorem dX10_reckonAll_229 : decode cX10_reckonAll 229 = .ok (.aload_n 0, 1) := by decide +kernel
theorem dX10_reckonAll_230 : decode cX10_reckonAll 230 = .ok (.getfield 58, 3) := by decide +kernel
theorem dX10_reckonAll_233 : decode cX10_reckonAll 233 = .ok (.iconst 0, 1) := by decide +kernel
theorem dX10_reckonAll_234 : decode cX10_reckonAll 234 = .ok (.laload, 1) := by decide +kernel
theorem dX10_reckonAll_235 : decode cX10_reckonAll 235 = .ok (.goto 4, 3) := by decide +kernel
theorem dX10_reckonAll_238 : decode cX10_reckonAll 238 = .ok (.lconst 0, 1) := by decide +kernel
theorem dX10_reckonAll_239 : decode cX10_reckonAll 239 = .ok (.putfield 316, 3) := by decide +kernel
theorem dX10_reckonAll_242 : decode cX10_reckonAll 242 = .ok (.return_, 1) := by decide +kernel
theorem dX10_move_0 : decode cX10_move 0 = .ok (.aload_n 0, 1) := by decide +kernel
theorem dX10_move_1 : decode cX10_move 1 = .ok (.getfield 43, 3) := by decide +kernel
theorem dX10_move_4 : decode cX10_move 4 = .ok (.iload_n 1, 1) := by decide +kernel
theorem dX10_move_5 : decode cX10_move 5 = .ok (.iconst 5, 1) := by decide +kernel
theorem dX10_move_6 : decode cX10_move 6 = .ok (.iadd, 1) := by decide +kernel
theorem dX10_move_7 : decode cX10_move 7 = .ok (.iaload, 1) := by decide +kernel
theorem dX10_move_8 : decode cX10_move 8 = .ok (.aload_n 0, 1) := by decide +kernel
theorem dX10_move_9 : decode cX10_move 9 = .ok (.getfield 43, 3) := by decide +kernel
theorem dX10_move_12 : decode cX10_move 12 = .ok (.iload_n 1, 1) := by decide +kernel
theorem dX10_move_13 : decode cX10_move 13 = .ok (.bipush 6, 2) := by decide +kernel
theorem dX10_move_15 : decode cX10_move 15 = .ok (.iadd, 1) := by decide +kernel
theorem dX10_move_16 : decode cX10_move 16 = .ok (.iaload, 1) := by decide +kernel
theorem dX10_move_17 : decode cX10_move 17 = .ok (.if_icmp .ge 42, 3) := by decide +kernel
theorem dX10_move_20 : decode cX10_move 20 = .ok (.aload_n 0, 1) := by decide +kernel
theorem dX10_move_21 : decode cX10_move 21 = .ok (.aload_n 0, 1) := by decide +kernel
theorem dX10_move_22 : decode cX10_move 22 = .ok (.getfield 43, 3) := by decide +kernel
theorem dX10_move_25 : decode cX10_move 25 = .ok (.iload_n 1, 1) := by decide +kernel
theorem dX10_move_26 : decode cX10_move 26 = .ok (.iconst 5, 1) := by decide +kernel
theorem dX10_move_27 : decode cX10_move 27 = .ok (.iadd, 1) := by decide +kernel
theorem dX10_move_28 : decode cX10_move 28 = .ok (.iaload, 1) := by decide +kernel
theorem dX10_move_29 : decode cX10_move 29 = .ok (.aload_n 0, 1) := by decide +kernel
theorem dX10_move_30 : decode cX10_move 30 = .ok (.getfield 43, 3) := by decide +kernel
theorem dX10_move_33 : decode cX10_move 33 = .ok (.iload_n 1, 1) := by decide +kernel
theorem dX10_move_34 : decode cX10_move 34 = .ok (.bipush 6, 2) := by decide +kernel
theorem dX10_move_36 : decode cX10_move 36 = .ok (.iadd, 1) := by decide +kernel
theorem dX10_move_37 : decode cX10_move 37 = .ok (.iaload, 1) := by decide +kernel
theorem dX10_move_38 : decode cX10_move 38 = .ok (.invokevirtual 319, 3) := by decide +kernel
theorem dX10_move_41 : decode cX10_move 41 = .ok (.aload_n 0, 1) := by decide +kernel
theorem dX10_move_42 : decode cX10_move 42 = .ok (.getfield 301, 3) := by decide +kernel
theorem dX10_move_45 : decode cX10_move 45 = .ok (.ifCond .ne 12, 3) := by decide +kernel
theorem dX10_move_48 : decode cX10_move 48 = .ok (.aload_n 0, 1) := by decide +kernel
theorem dX10_move_49 : decode cX10_move 49 = .ok (.getfield 316, 3) := by decide +kernel
theorem dX10_move_52 : decode cX10_move 52 = .ok (.lconst 0, 1) := by decide +kernel
theorem dX10_move_53 : decode cX10_move 53 = .ok (.lcmp, 1) := by decide +kernel
theorem dX10_move_54 : decode cX10_move 54 = .ok (.ifCond .ne 5, 3) := by decide +kernel
theorem dX10_move_57 : decode cX10_move 57 = .ok (.iconst 0, 1) := by decide +kernel
theorem dX10_move_58 : decode cX10_move 58 = .ok (.ireturn, 1) := by decide +kernel
theorem dX10_move_59 : decode cX10_move 59 = .ok (.aload_n 0, 1) := by decide +kernel
theorem dX10_move_60 : decode cX10_move 60 = .ok (.aload_n 0, 1) := by decide +kernel
theorem dX10_move_61 : decode cX10_move 61 = .ok (.getfield 43, 3) := by decide +kernel
theorem dX10_move_64 : decode cX10_move 64 = .ok (.iload_n 1, 1) := by decide +kernel
theorem dX10_move_65 : decode cX10_move 65 = .ok (.iconst 3, 1) := by decide +kernel
theorem dX10_move_66 : decode cX10_move 66 = .ok (.iadd, 1) := by decide +kernel
theorem dX10_move_67 : decode cX10_move 67 = .ok (.iaload, 1) := by decide +kernel
theorem dX10_move_68 : decode cX10_move 68 = .ok (.aload_n 0, 1) := by decide +kernel
theorem dX10_move_69 : decode cX10_move 69 = .ok (.getfield 43, 3) := by decide +kernel
theorem dX10_move_72 : decode cX10_move 72 = .ok (.iload_n 1, 1) := by decide +kernel
theorem dX10_move_73 : decode cX10_move 73 = .ok (.iconst 4, 1) := by decide +kernel
theorem dX10_move_74 : decode cX10_move 74 = .ok (.iadd, 1) := by decide +kernel
theorem dX10_move_75 : decode cX10_move 75 = .ok (.iaload, 1) := by decide +kernel
theorem dX10_move_76 : decode cX10_move 76 = .ok (.invokevirtual 319, 3) := by decide +kernel
theorem dX10_move_79 : decode cX10_move 79 = .ok (.aload_n 0, 1) := by decide +kernel
theorem dX10_move_80 : decode cX10_move 80 = .ok (.getfield 43, 3) := by decide +kernel
theorem dX10_move_83 : decode cX10_move 83 = .ok (.iload_n 1, 1) := by decide +kernel
theorem dX10_move_84 : decode cX10_move 84 = .ok (.iaload, 1) := by decide +kernel
theorem dX10_move_85 : decode cX10_move 85 = .ok (.istore_n 2, 1) := by decide +kernel
theorem dX10_move_86 : decode cX10_move 86 = .ok (.aload_n 0, 1) := by decide +kernel
theorem dX10_move_87 : decode cX10_move 87 = .ok (.getfield 43, 3) := by decide +kernel
theorem dX10_move_90 : decode cX10_move 90 = .ok (.iload_n 1, 1) := by decide +kernel
theorem dX10_move_91 : decode cX10_move 91 = .ok (.iconst 2, 1) := by decide +kernel
theorem dX10_move_92 : decode cX10_move 92 = .ok (.iadd, 1) := by decide +kernel
theorem dX10_move_93 : decode cX10_move 93 = .ok (.iaload, 1) := by decide +kernel
theorem dX10_move_94 : decode cX10_move 94 = .ok (.istore_n 3, 1) := by decide +kernel
theorem dX10_move_95 : decode cX10_move 95 = .ok (.iload_n 2, 1) := by decide +kernel
theorem dX10_move_96 : decode cX10_move 96 = .ok (.iconst 2, 1) := by decide +kernel
theorem dX10_move_97 : decode cX10_move 97 = .ok (.if_icmp .ne 11, 3) := by decide +kernel
theorem dX10_move_100 : decode cX10_move 100 = .ok (.aload_n 0, 1) := by decide +kernel
theorem dX10_move_101 : decode cX10_move 101 = .ok (.iload_n 3, 1) := by decide +kernel
theorem dX10_move_102 : decode cX10_move 102 = .ok (.invokevirtual 102, 3) := by decide +kernel
theorem dX10_move_105 : decode cX10_move 105 = .ok (.goto 36, 3) := by decide +kernel
theorem dX10_move_108 : decode cX10_move 108 = .ok (.aload_n 0, 1) := by decide +kernel
theorem dX10_move_109 : decode cX10_move 109 = .ok (.aload_n 0, 1) := by decide +kernel
theorem dX10_move_110 : decode cX10_move 110 = .ok (.getfield 43, 3) := by decide +kernel
theorem dX10_move_113 : decode cX10_move 113 = .ok (.iload_n 1, 1) := by decide +kernel
theorem dX10_move_114 : decode cX10_move 114 = .ok (.iconst 1, 1) := by decide +kernel
theorem dX10_move_115 : decode cX10_move 115 = .ok (.iadd, 1) := by decide +kernel
theorem dX10_move_116 : decode cX10_move 116 = .ok (.iaload, 1) := by decide +kernel
theorem dX10_move_117 : decode cX10_move 117 = .ok (.invokevirtual 102, 3) := by decide +kernel
theorem dX10_move_120 : decode cX10_move 120 = .ok (.ifCond .eq 20, 3) := by decide +kernel
theorem dX10_move_123 : decode cX10_move 123 = .ok (.iload_n 2, 1) := by decide +kernel
theorem dX10_move_124 : decode cX10_move 124 = .ok (.iconst 1, 1) := by decide +kernel
theorem dX10_move_125 : decode cX10_move 125 = .ok (.if_icmp .eq 11, 3) := by decide +kernel
theorem dX10_move_128 : decode cX10_move 128 = .ok (.aload_n 0, 1) := by decide +kernel
theorem dX10_move_129 : decode cX10_move 129 = .ok (.iload_n 3, 1) := by decide +kernel
theorem dX10_move_130 : decode cX10_move 130 = .ok (.invokevirtual 102, 3) := by decide +kernel
theorem dX10_move_133 : decode cX10_move 133 = .ok (.ifCond .eq 7, 3) := by decide +kernel
theorem dX10_move_136 : decode cX10_move 136 = .ok (.iconst 1, 1) := by decide +kernel
theorem dX10_move_137 : decode cX10_move 137 = .ok (.goto 4, 3) := by decide +kernel
theorem dX10_move_140 : decode cX10_move 140 = .ok (.iconst 0, 1) := by decide +kernel
theorem dX10_move_141 : decode cX10_move 141 = .ok (.istore 4, 2) := by decide +kernel
theorem dX10_move_143 : decode cX10_move 143 = .ok (.aload_n 0, 1) := by decide +kernel
theorem dX10_move_144 : decode cX10_move 144 = .ok (.getfield 301, 3) := by decide +kernel
theorem dX10_move_147 : decode cX10_move 147 = .ok (.ifCond .ne 22, 3) := by decide +kernel
theorem dX10_move_150 : decode cX10_move 150 = .ok (.aload_n 0, 1) := by decide +kernel
theorem dX10_move_151 : decode cX10_move 151 = .ok (.getfield 316, 3) := by decide +kernel
theorem dX10_move_154 : decode cX10_move 154 = .ok (.lconst 1, 1) := by decide +kernel
theorem dX10_move_155 : decode cX10_move 155 = .ok (.ldc2_w 93, 3) := by decide +kernel
theorem dX10_move_158 : decode cX10_move 158 = .ok (.invokestatic 83, 3) := by decide +kernel
theorem dX10_move_161 : decode cX10_move 161 = .ok (.ifCond .eq 8, 3) := by decide +kernel
theorem dX10_move_164 : decode cX10_move 164 = .ok (.iload 4, 2) := by decide +kernel
theorem dX10_move_166 : decode cX10_move 166 = .ok (.ifCond .ne 6, 3) := by decide +kernel
theorem dX10_move_169 : decode cX10_move 169 = .ok (.bipush (-3), 2) := by decide +kernel
theorem dX10_move_171 : decode cX10_move 171 = .ok (.ireturn, 1) := by decide +kernel
theorem dX10_move_172 : decode cX10_move 172 = .ok (.iload_n 2, 1) := by decide +kernel
theorem dX10_move_173 : decode cX10_move 173 = .ok (.iconst 2, 1) := by decide +kernel
theorem dX10_move_174 : decode cX10_move 174 = .ok (.if_icmp .ne 24, 3) := by decide +kernel
theorem dX10_move_177 : decode cX10_move 177 = .ok (.aload_n 0, 1) := by decide +kernel
theorem dX10_move_178 : decode cX10_move 178 = .ok (.iload_n 3, 1) := by decide +kernel
theorem dX10_move_179 : decode cX10_move 179 = .ok (.aload_n 0, 1) := by decide +kernel
theorem dX10_move_180 : decode cX10_move 180 = .ok (.getfield 43, 3) := by decide +kernel
theorem dX10_move_183 : decode cX10_move 183 = .ok (.iload_n 1, 1) := by decide +kernel
theorem dX10_move_184 : decode cX10_move 184 = .ok (.iconst 1, 1) := by decide +kernel
theorem dX10_move_185 : decode cX10_move 185 = .ok (.iadd, 1) := by decide +kernel
theorem dX10_move_186 : decode cX10_move 186 = .ok (.iaload, 1) := by decide +kernel
theorem dX10_move_187 : decode cX10_move 187 = .ok (.aload_n 0, 1) := by decide +kernel
theorem dX10_move_188 : decode cX10_move 188 = .ok (.getfield 316, 3) := by decide +kernel
theorem dX10_move_191 : decode cX10_move 191 = .ok (.l2i, 1) := by decide +kernel
theorem dX10_move_192 : decode cX10_move 192 = .ok (.invokevirtual 135, 3) := by decide +kernel
theorem dX10_move_195 : decode cX10_move 195 = .ok (.goto 30, 3) := by decide +kernel
theorem dX10_move_198 : decode cX10_move 198 = .ok (.aload_n 0, 1) := by decide +kernel
theorem dX10_move_199 : decode cX10_move 199 = .ok (.aload_n 0, 1) := by decide +kernel
theorem dX10_move_200 : decode cX10_move 200 = .ok (.getfield 43, 3) := by decide +kernel
theorem dX10_move_203 : decode cX10_move 203 = .ok (.iload_n 1, 1) := by decide +kernel
theorem dX10_move_204 : decode cX10_move 204 = .ok (.iconst 1, 1) := by decide +kernel
theorem dX10_move_205 : decode cX10_move 205 = .ok (.iadd, 1) := by decide +kernel
theorem dX10_move_206 : decode cX10_move 206 = .ok (.iaload, 1) := by decide +kernel
theorem dX10_move_207 : decode cX10_move 207 = .ok (.iload_n 2, 1) := by decide +kernel
theorem dX10_move_208 : decode cX10_move 208 = .ok (.iconst 1, 1) := by decide +kernel
theorem dX10_move_209 : decode cX10_move 209 = .ok (.if_icmp .ne 7, 3) := by decide +kernel
theorem dX10_move_212 : decode cX10_move 212 = .ok (.iconst (-1), 1) := by decide +kernel
theorem dX10_move_213 : decode cX10_move 213 = .ok (.goto 4, 3) := by decide +kernel
theorem dX10_move_216 : decode cX10_move 216 = .ok (.iload_n 3, 1) := by decide +kernel
theorem dX10_move_217 : decode cX10_move 217 = .ok (.aload_n 0, 1) := by decide +kernel
theorem dX10_move_218 : decode cX10_move 218 = .ok (.getfield 316, 3) := by decide +kernel
theorem dX10_move_221 : decode cX10_move 221 = .ok (.l2i, 1) := by decide +kernel
theorem dX10_move_222 : decode cX10_move 222 = .ok (.invokevirtual 139, 3) := by decide +kernel
theorem dX10_move_225 : decode cX10_move 225 = .ok (.istore 5, 2) := by decide +kernel
theorem dX10_move_227 : decode cX10_move 227 = .ok (.aload_n 0, 1) := by decide +kernel
theorem dX10_move_228 : decode cX10_move 228 = .ok (.dup, 1) := by decide +kernel
theorem dX10_move_229 : decode cX10_move 229 = .ok (.getfield 298, 3) := by decide +kernel
theorem dX10_move_232 : decode cX10_move 232 = .ok (.iload 5, 2) := by decide +kernel
theorem dX10_move_234 : decode cX10_move 234 = .ok (.ifCond .ge 7, 3) := by decide +kernel
theorem dX10_move_237 : decode cX10_move 237 = .ok (.iconst 0, 1) := by decide +kernel
theorem dX10_move_238 : decode cX10_move 238 = .ok (.goto 4, 3) := by decide +kernel
theorem dX10_move_241 : decode cX10_move 241 = .ok (.iconst 1, 1) := by decide +kernel
theorem dX10_move_242 : decode cX10_move 242 = .ok (.iadd, 1) := by decide +kernel
theorem dX10_move_243 : decode cX10_move 243 = .ok (.putfield 298, 3) := by decide +kernel
theorem dX10_move_246 : decode cX10_move 246 = .ok (.iload 5, 2) := by decide +kernel
theorem dX10_move_248 : decode cX10_move 248 = .ok (.ireturn, 1) := by decide +kernel
theorem dX10_evening_0 : decode cX10_evening 0 = .ok (.aload_n 0, 1) := by decide +kernel
theorem dX10_evening_1 : decode cX10_evening 1 = .ok (.iconst 0, 1) := by decide +kernel
theorem dX10_evening_2 : decode cX10_evening 2 = .ok (.putfield 77, 3) := by decide +kernel
theorem dX10_evening_5 : decode cX10_evening 5 = .ok (.aload_n 0, 1) := by decide +kernel
theorem dX10_evening_6 : decode cX10_evening 6 = .ok (.invokevirtual 322, 3) := by decide +kernel
theorem dX10_evening_9 : decode cX10_evening 9 = .ok (.aload_n 0, 1) := by decide +kernel
theorem dX10_evening_10 : decode cX10_evening 10 = .ok (.iconst 0, 1) := by decide +kernel
theorem dX10_evening_11 : decode cX10_evening 11 = .ok (.putfield 284, 3) := by decide +kernel
theorem dX10_evening_14 : decode cX10_evening 14 = .ok (.aload_n 0, 1) := by decide +kernel
theorem dX10_evening_15 : decode cX10_evening 15 = .ok (.iconst 0, 1) := by decide +kernel
theorem dX10_evening_16 : decode cX10_evening 16 = .ok (.putfield 191, 3) := by decide +kernel
theorem dX10_evening_19 : decode cX10_evening 19 = .ok (.aload_n 0, 1) := by decide +kernel
theorem dX10_evening_20 : decode cX10_evening 20 = .ok (.iconst 0, 1) := by decide +kernel
theorem dX10_evening_21 : decode cX10_evening 21 = .ok (.putfield 218, 3) := by decide +kernel
theorem dX10_evening_24 : decode cX10_evening 24 = .ok (.aload_n 0, 1) := by decide +kernel
theorem dX10_evening_25 : decode cX10_evening 25 = .ok (.iconst (-1), 1) := by decide +kernel
theorem dX10_evening_26 : decode cX10_evening 26 = .ok (.putfield 61, 3) := by decide +kernel
theorem dX10_evening_29 : decode cX10_evening 29 = .ok (.aload_n 0, 1) := by decide +kernel
theorem dX10_evening_30 : decode cX10_evening 30 = .ok (.invokevirtual 325, 3) := by decide +kernel
theorem dX10_evening_33 : decode cX10_evening 33 = .ok (.aload_n 0, 1) := by decide +kernel
theorem dX10_evening_34 : decode cX10_evening 34 = .ok (.getfield 154, 3) := by decide +kernel
theorem dX10_evening_37 : decode cX10_evening 37 = .ok (.ifCond .ne 23, 3) := by decide +kernel
theorem dX10_evening_40 : decode cX10_evening 40 = .ok (.aload_n 0, 1) := by decide +kernel
theorem dX10_evening_41 : decode cX10_evening 41 = .ok (.bipush 59, 2) := by decide +kernel
theorem dX10_evening_43 : decode cX10_evening 43 = .ok (.invokevirtual 221, 3) := by decide +kernel
theorem dX10_evening_46 : decode cX10_evening 46 = .ok (.ifCond .eq 14, 3) := by decide +kernel
theorem dX10_evening_49 : decode cX10_evening 49 = .ok (.aload_n 0, 1) := by decide +kernel
theorem dX10_evening_50 : decode cX10_evening 50 = .ok (.invokevirtual 158, 3) := by decide +kernel
theorem dX10_evening_53 : decode cX10_evening 53 = .ok (.aload_n 0, 1) := by decide +kernel
theorem dX10_evening_54 : decode cX10_evening 54 = .ok (.invokevirtual 325, 3) := by decide +kernel
theorem dX10_evening_57 : decode cX10_evening 57 = .ok (.goto (-24), 3) := by decide +kernel
theorem dX10_evening_60 : decode cX10_evening 60 = .ok (.aload_n 0, 1) := by decide +kernel
theorem dX10_evening_61 : decode cX10_evening 61 = .ok (.getfield 154, 3) := by decide +kernel
theorem dX10_evening_64 : decode cX10_evening 64 = .ok (.ifCond .ne 15, 3) := by decide +kernel
theorem dX10_evening_67 : decode cX10_evening 67 = .ok (.aload_n 0, 1) := by decide +kernel
theorem dX10_evening_68 : decode cX10_evening 68 = .ok (.getfield 174, 3) := by decide +kernel
theorem dX10_evening_71 : decode cX10_evening 71 = .ok (.ifCond .eq 8, 3) := by decide +kernel
theorem dX10_evening_74 : decode cX10_evening 74 = .ok (.aload_n 0, 1) := by decide +kernel
theorem dX10_evening_75 : decode cX10_evening 75 = .ok (.iconst 0, 1) := by decide +kernel
theorem dX10_evening_76 : decode cX10_evening 76 = .ok (.invokevirtual 187, 3) := by decide +kernel
theorem dX10_evening_79 : decode cX10_evening 79 = .ok (.aload_n 0, 1) := by decide +kernel
theorem dX10_evening_80 : decode cX10_evening 80 = .ok (.iconst 0, 1) := by decide +kernel
theorem dX10_evening_81 : decode cX10_evening 81 = .ok (.putfield 142, 3) := by decide +kernel
theorem dX10_evening_84 : decode cX10_evening 84 = .ok (.aload_n 0, 1) := by decide +kernel
theorem dX10_evening_85 : decode cX10_evening 85 = .ok (.getfield 154, 3) := by decide +kernel
theorem dX10_evening_88 : decode cX10_evening 88 = .ok (.ifCond .eq 10, 3) := by decide +kernel
theorem dX10_evening_91 : decode cX10_evening 91 = .ok (.aload_n 0, 1) := by decide +kernel
theorem dX10_evening_92 : decode cX10_evening 92 = .ok (.bipush (-6), 2) := by decide +kernel
theorem dX10_evening_94 : decode cX10_evening 94 = .ok (.invokevirtual 87, 3) := by decide +kernel
theorem dX10_evening_97 : decode cX10_evening 97 = .ok (.ireturn, 1) := by decide +kernel
theorem dX10_evening_98 : decode cX10_evening 98 = .ok (.aload_n 0, 1) := by decide +kernel
theorem dX10_evening_99 : decode cX10_evening 99 = .ok (.bipush 25, 2) := by decide +kernel
theorem dX10_evening_101 : decode cX10_evening 101 = .ok (.invokevirtual 123, 3) := by decide +kernel
theorem dX10_evening_104 : decode cX10_evening 104 = .ok (.aload_n 0, 1) := by decide +kernel
theorem dX10_evening_105 : decode cX10_evening 105 = .ok (.iconst 0, 1) := by decide +kernel
theorem dX10_evening_106 : decode cX10_evening 106 = .ok (.putfield 298, 3) := by decide +kernel
theorem dX10_evening_109 : decode cX10_evening 109 = .ok (.iconst 0, 1) := by decide +kernel
theorem dX10_evening_110 : decode cX10_evening 110 = .ok (.istore_n 1, 1) := by decide +kernel
theorem dX10_evening_111 : decode cX10_evening 111 = .ok (.iload_n 1, 1) := by decide +kernel
theorem dX10_evening_112 : decode cX10_evening 112 = .ok (.aload_n 0, 1) := by decide +kernel
theorem dX10_evening_113 : decode cX10_evening 113 = .ok (.getfield 284, 3) := by decide +kernel
theorem dX10_evening_116 : decode cX10_evening 116 = .ok (.if_icmp .ge 63, 3) := by decide +kernel
theorem dX10_evening_119 : decode cX10_evening 119 = .ok (.iconst 0, 1) := by decide +kernel
theorem dX10_evening_120 : decode cX10_evening 120 = .ok (.istore_n 2, 1) := by decide +kernel
theorem dX10_evening_121 : decode cX10_evening 121 = .ok (.iload_n 2, 1) := by decide +kernel
theorem dX10_evening_122 : decode cX10_evening 122 = .ok (.aload_n 0, 1) := by decide +kernel
theorem dX10_evening_123 : decode cX10_evening 123 = .ok (.getfield 43, 3) := by decide +kernel
theorem dX10_evening_126 : decode cX10_evening 126 = .ok (.bipush 8, 2) := by decide +kernel
theorem dX10_evening_128 : decode cX10_evening 128 = .ok (.iload_n 1, 1) := by decide +kernel
theorem dX10_evening_129 : decode cX10_evening 129 = .ok (.imul, 1) := by decide +kernel
theorem dX10_evening_130 : decode cX10_evening 130 = .ok (.bipush 7, 2) := by decide +kernel
theorem dX10_evening_132 : decode cX10_evening 132 = .ok (.iadd, 1) := by decide +kernel
theorem dX10_evening_133 : decode cX10_evening 133 = .ok (.iaload, 1) := by decide +kernel
theorem dX10_evening_134 : decode cX10_evening 134 = .ok (.if_icmp .ge 39, 3) := by decide +kernel
theorem dX10_evening_137 : decode cX10_evening 137 = .ok (.aload_n 0, 1) := by decide +kernel
theorem dX10_evening_138 : decode cX10_evening 138 = .ok (.bipush 8, 2) := by decide +kernel
theorem dX10_evening_140 : decode cX10_evening 140 = .ok (.iload_n 1, 1) := by decide +kernel
theorem dX10_evening_141 : decode cX10_evening 141 = .ok (.imul, 1) := by decide +kernel
theorem dX10_evening_142 : decode cX10_evening 142 = .ok (.invokevirtual 328, 3) := by decide +kernel
theorem dX10_evening_145 : decode cX10_evening 145 = .ok (.istore_n 3, 1) := by decide +kernel
theorem dX10_evening_146 : decode cX10_evening 146 = .ok (.iload_n 3, 1) := by decide +kernel
theorem dX10_evening_147 : decode cX10_evening 147 = .ok (.ifCond .ge 20, 3) := by decide +kernel
theorem dX10_evening_150 : decode cX10_evening 150 = .ok (.aload_n 0, 1) := by decide +kernel
theorem dX10_evening_151 : decode cX10_evening 151 = .ok (.bipush 25, 2) := by decide +kernel
theorem dX10_evening_153 : decode cX10_evening 153 = .ok (.invokevirtual 132, 3) := by decide +kernel
theorem dX10_evening_156 : decode cX10_evening 156 = .ok (.aload_n 0, 1) := by decide +kernel
theorem dX10_evening_157 : decode cX10_evening 157 = .ok (.iload_n 1, 1) := by decide +kernel
theorem dX10_evening_158 : decode cX10_evening 158 = .ok (.putfield 61, 3) := by decide +kernel
theorem dX10_evening_161 : decode cX10_evening 161 = .ok (.aload_n 0, 1) := by decide +kernel
theorem dX10_evening_162 : decode cX10_evening 162 = .ok (.iload_n 3, 1) := by decide +kernel
theorem dX10_evening_163 : decode cX10_evening 163 = .ok (.invokevirtual 87, 3) := by decide +kernel
theorem dX10_evening_166 : decode cX10_evening 166 = .ok (.ireturn, 1) := by decide +kernel
theorem dX10_evening_167 : decode cX10_evening 167 = .ok (.iinc 2 1, 3) := by decide +kernel
theorem dX10_evening_170 : decode cX10_evening 170 = .ok (.goto (-49), 3) := by decide +kernel
theorem dX10_evening_173 : decode cX10_evening 173 = .ok (.iinc 1 1, 3) := by decide +kernel
theorem dX10_evening_176 : decode cX10_evening 176 = .ok (.goto (-65), 3) := by decide +kernel
theorem dX10_evening_179 : decode cX10_evening 179 = .ok (.aload_n 0, 1) := by decide +kernel
theorem dX10_evening_180 : decode cX10_evening 180 = .ok (.aload_n 0, 1) := by decide +kernel
theorem dX10_evening_181 : decode cX10_evening 181 = .ok (.getfield 298, 3) := by decide +kernel
theorem dX10_evening_184 : decode cX10_evening 184 = .ok (.invokevirtual 87, 3) := by decide +kernel
theorem dX10_evening_187 : decode cX10_evening 187 = .ok (.ireturn, 1) := by decide +kernel
theorem dX10_stopped_0 : decode cX10_stopped 0 = .ok (.aload_n 0, 1) := by decide +kernel
theorem dX10_stopped_1 : decode cX10_stopped 1 = .ok (.iconst 0, 1) := by decide +kernel
theorem dX10_stopped_2 : decode cX10_stopped 2 = .ok (.putfield 77, 3) := by decide +kernel
theorem dX10_stopped_5 : decode cX10_stopped 5 = .ok (.aload_n 0, 1) := by decide +kernel
theorem dX10_stopped_6 : decode cX10_stopped 6 = .ok (.getfield 61, 3) := by decide +kernel
theorem dX10_stopped_9 : decode cX10_stopped 9 = .ok (.ireturn, 1) := by decide +kernel
theorem dX10_alike_0 : decode cX10_alike 0 = .ok (.aload_n 0, 1) := by decide +kernel
theorem dX10_alike_1 : decode cX10_alike 1 = .ok (.iconst 0, 1) := by decide +kernel
theorem dX10_alike_2 : decode cX10_alike 2 = .ok (.putfield 77, 3) := by decide +kernel
theorem dX10_alike_5 : decode cX10_alike 5 = .ok (.aload_n 0, 1) := by decide +kernel
theorem dX10_alike_6 : decode cX10_alike 6 = .ok (.iload_n 1, 1) := by decide +kernel
theorem dX10_alike_7 : decode cX10_alike 7 = .ok (.invokevirtual 102, 3) := by decide +kernel
theorem dX10_alike_10 : decode cX10_alike 10 = .ok (.ifCond .eq 18, 3) := by decide +kernel
theorem dX10_alike_13 : decode cX10_alike 13 = .ok (.aload_n 0, 1) := by decide +kernel
theorem dX10_alike_14 : decode cX10_alike 14 = .ok (.iload_n 2, 1) := by decide +kernel
theorem dX10_alike_15 : decode cX10_alike 15 = .ok (.invokevirtual 102, 3) := by decide +kernel
theorem dX10_alike_18 : decode cX10_alike 18 = .ok (.ifCond .eq 10, 3) := by decide +kernel
theorem dX10_alike_21 : decode cX10_alike 21 = .ok (.iload_n 3, 1) := by decide +kernel
theorem dX10_alike_22 : decode cX10_alike 22 = .ok (.invokestatic 105, 3) := by decide +kernel
theorem dX10_alike_25 : decode cX10_alike 25 = .ok (.ifCond .ne 5, 3) := by decide +kernel
theorem dX10_alike_28 : decode cX10_alike 28 = .ok (.iconst (-1), 1) := by decide +kernel
theorem dX10_alike_29 : decode cX10_alike 29 = .ok (.ireturn, 1) := by decide +kernel
theorem dX10_alike_30 : decode cX10_alike 30 = .ok (.aload_n 0, 1) := by decide +kernel
theorem dX10_alike_31 : decode cX10_alike 31 = .ok (.iload_n 1, 1) := by decide +kernel
theorem dX10_alike_32 : decode cX10_alike 32 = .ok (.invokevirtual 99, 3) := by decide +kernel
theorem dX10_alike_35 : decode cX10_alike 35 = .ok (.istore 4, 2) := by decide +kernel
theorem dX10_alike_37 : decode cX10_alike 37 = .ok (.aload_n 0, 1) := by decide +kernel
theorem dX10_alike_38 : decode cX10_alike 38 = .ok (.iload_n 2, 1) := by decide +kernel
theorem dX10_alike_39 : decode cX10_alike 39 = .ok (.invokevirtual 99, 3) := by decide +kernel
theorem dX10_alike_42 : decode cX10_alike 42 = .ok (.istore 5, 2) := by decide +kernel
theorem dX10_alike_44 : decode cX10_alike 44 = .ok (.iload 4, 2) := by decide +kernel
theorem dX10_alike_46 : decode cX10_alike 46 = .ok (.ifCond .ne 7, 3) := by decide +kernel
theorem dX10_alike_49 : decode cX10_alike 49 = .ok (.lconst 0, 1) := by decide +kernel
theorem dX10_alike_50 : decode cX10_alike 50 = .ok (.goto 13, 3) := by decide +kernel
theorem dX10_alike_53 : decode cX10_alike 53 = .ok (.aload_n 0, 1) := by decide +kernel
theorem dX10_alike_54 : decode cX10_alike 54 = .ok (.getfield 19, 3) := by decide +kernel
theorem dX10_alike_57 : decode cX10_alike 57 = .ok (.iconst 4, 1) := by decide +kernel
theorem dX10_alike_58 : decode cX10_alike 58 = .ok (.iload_n 1, 1) := by decide +kernel
theorem dX10_alike_59 : decode cX10_alike 59 = .ok (.imul, 1) := by decide +kernel
theorem dX10_alike_60 : decode cX10_alike 60 = .ok (.iload_n 3, 1) := by decide +kernel
theorem dX10_alike_61 : decode cX10_alike 61 = .ok (.iadd, 1) := by decide +kernel
theorem dX10_alike_62 : decode cX10_alike 62 = .ok (.laload, 1) := by decide +kernel
theorem dX10_alike_63 : decode cX10_alike 63 = .ok (.lstore 6, 2) := by decide +kernel
theorem dX10_alike_65 : decode cX10_alike 65 = .ok (.iload 5, 2) := by decide +kernel
theorem dX10_alike_67 : decode cX10_alike 67 = .ok (.ifCond .ne 7, 3) := by decide +kernel
theorem dX10_alike_70 : decode cX10_alike 70 = .ok (.lconst 0, 1) := by decide +kernel
theorem dX10_alike_71 : decode cX10_alike 71 = .ok (.goto 13, 3) := by decide +kernel
theorem dX10_alike_74 : decode cX10_alike 74 = .ok (.aload_n 0, 1) := by decide +kernel
theorem dX10_alike_75 : decode cX10_alike 75 = .ok (.getfield 19, 3) := by decide +kernel
theorem dX10_alike_78 : decode cX10_alike 78 = .ok (.iconst 4, 1) := by decide +kernel
theorem dX10_alike_79 : decode cX10_alike 79 = .ok (.iload_n 2, 1) := by decide +kernel
theorem dX10_alike_80 : decode cX10_alike 80 = .ok (.imul, 1) := by decide +kernel
theorem dX10_alike_81 : decode cX10_alike 81 = .ok (.iload_n 3, 1) := by decide +kernel
theorem dX10_alike_82 : decode cX10_alike 82 = .ok (.iadd, 1) := by decide +kernel
theorem dX10_alike_83 : decode cX10_alike 83 = .ok (.laload, 1) := by decide +kernel
theorem dX10_alike_84 : decode cX10_alike 84 = .ok (.lstore 8, 2) := by decide +kernel
theorem dX10_alike_86 : decode cX10_alike 86 = .ok (.lload 6, 2) := by decide +kernel
theorem dX10_alike_88 : decode cX10_alike 88 = .ok (.iload 5, 2) := by decide +kernel
theorem dX10_alike_90 : decode cX10_alike 90 = .ok (.ifCond .ne 7, 3) := by decide +kernel
theorem dX10_alike_93 : decode cX10_alike 93 = .ok (.iconst 1, 1) := by decide +kernel
theorem dX10_alike_94 : decode cX10_alike 94 = .ok (.goto 5, 3) := by decide +kernel
theorem dX10_alike_97 : decode cX10_alike 97 = .ok (.iload 5, 2) := by decide +kernel
theorem dX10_alike_99 : decode cX10_alike 99 = .ok (.i2l, 1) := by decide +kernel
theorem dX10_alike_100 : decode cX10_alike 100 = .ok (.lmul, 1) := by decide +kernel
theorem dX10_alike_101 : decode cX10_alike 101 = .ok (.lload 8, 2) := by decide +kernel
theorem dX10_alike_103 : decode cX10_alike 103 = .ok (.iload 4, 2) := by decide +kernel
theorem dX10_alike_105 : decode cX10_alike 105 = .ok (.ifCond .ne 7, 3) := by decide +kernel
theorem dX10_alike_108 : decode cX10_alike 108 = .ok (.iconst 1, 1) := by decide +kernel
theorem dX10_alike_109 : decode cX10_alike 109 = .ok (.goto 5, 3) := by decide +kernel
theorem dX10_alike_112 : decode cX10_alike 112 = .ok (.iload 4, 2) := by decide +kernel
theorem dX10_alike_114 : decode cX10_alike 114 = .ok (.i2l, 1) := by decide +kernel
theorem dX10_alike_115 : decode cX10_alike 115 = .ok (.lmul, 1) := by decide +kernel
theorem dX10_alike_116 : decode cX10_alike 116 = .ok (.lcmp, 1) := by decide +kernel
theorem dX10_alike_117 : decode cX10_alike 117 = .ok (.ifCond .ne 7, 3) := by decide +kernel
theorem dX10_alike_120 : decode cX10_alike 120 = .ok (.iconst 1, 1) := by decide +kernel
theorem dX10_alike_121 : decode cX10_alike 121 = .ok (.goto 4, 3) := by decide +kernel
theorem dX10_alike_124 : decode cX10_alike 124 = .ok (.iconst 0, 1) := by decide +kernel
theorem dX10_alike_125 : decode cX10_alike 125 = .ok (.ireturn, 1) := by decide +kernel
theorem dX10_power_0 : decode cX10_power 0 = .ok (.lconst 1, 1) := by decide +kernel
theorem dX10_power_1 : decode cX10_power 1 = .ok (.lstore_n 3, 1) := by decide +kernel
theorem dX10_power_2 : decode cX10_power 2 = .ok (.iconst 0, 1) := by decide +kernel
theorem dX10_power_3 : decode cX10_power 3 = .ok (.istore 5, 2) := by decide +kernel
theorem dX10_power_5 : decode cX10_power 5 = .ok (.iload 5, 2) := by decide +kernel
theorem dX10_power_7 : decode cX10_power 7 = .ok (.iload_n 2, 1) := by decide +kernel
theorem dX10_power_8 : decode cX10_power 8 = .ok (.if_icmp .ge 13, 3) := by decide +kernel
theorem dX10_power_11 : decode cX10_power 11 = .ok (.lload_n 3, 1) := by decide +kernel
theorem dX10_power_12 : decode cX10_power 12 = .ok (.lload_n 0, 1) := by decide +kernel
theorem dX10_power_13 : decode cX10_power 13 = .ok (.lmul, 1) := by decide +kernel
theorem dX10_power_14 : decode cX10_power 14 = .ok (.lstore_n 3, 1) := by decide +kernel
theorem dX10_power_15 : decode cX10_power 15 = .ok (.iinc 5 1, 3) := by decide +kernel
theorem dX10_power_18 : decode cX10_power 18 = .ok (.goto (-13), 3) := by decide +kernel
theorem dX10_power_21 : decode cX10_power 21 = .ok (.lload_n 3, 1) := by decide +kernel
theorem dX10_power_22 : decode cX10_power 22 = .ok (.lreturn, 1) := by decide +kernel
theorem dX10_lowest_0 : decode cX10_lowest 0 = .ok (.lload_n 2, 1) := by decide +kernel
theorem dX10_lowest_1 : decode cX10_lowest 1 = .ok (.lload_n 0, 1) := by decide +kernel
theorem dX10_lowest_2 : decode cX10_lowest 2 = .ok (.invokestatic 116, 3) := by decide +kernel
theorem dX10_lowest_5 : decode cX10_lowest 5 = .ok (.lstore 5, 2) := by decide +kernel
theorem dX10_lowest_7 : decode cX10_lowest 7 = .ok (.iload 4, 2) := by decide +kernel
theorem dX10_lowest_9 : decode cX10_lowest 9 = .ok (.ifCond .ne 10, 3) := by decide +kernel
theorem dX10_lowest_12 : decode cX10_lowest 12 = .ok (.lload_n 0, 1) := by decide +kernel
theorem dX10_lowest_13 : decode cX10_lowest 13 = .ok (.lload 5, 2) := by decide +kernel
theorem dX10_lowest_15 : decode cX10_lowest 15 = .ok (.ldiv, 1) := by decide +kernel
theorem dX10_lowest_16 : decode cX10_lowest 16 = .ok (.goto 7, 3) := by decide +kernel
theorem dX10_lowest_19 : decode cX10_lowest 19 = .ok (.lload_n 2, 1) := by decide +kernel
theorem dX10_lowest_20 : decode cX10_lowest 20 = .ok (.lload 5, 2) := by decide +kernel
theorem dX10_lowest_22 : decode cX10_lowest 22 = .ok (.ldiv, 1) := by decide +kernel
theorem dX10_lowest_23 : decode cX10_lowest 23 = .ok (.lreturn, 1) := by decide +kernel
theorem dX10_areBoth_0 : decode cX10_areBoth 0 = .ok (.iload_n 0, 1) := by decide +kernel
theorem dX10_areBoth_1 : decode cX10_areBoth 1 = .ok (.invokestatic 95, 3) := by decide +kernel
theorem dX10_areBoth_4 : decode cX10_areBoth 4 = .ok (.ifCond .eq 20, 3) := by decide +kernel
theorem dX10_areBoth_7 : decode cX10_areBoth 7 = .ok (.iload_n 1, 1) := by decide +kernel
theorem dX10_areBoth_8 : decode cX10_areBoth 8 = .ok (.i2l, 1) := by decide +kernel
theorem dX10_areBoth_9 : decode cX10_areBoth 9 = .ok (.lconst 1, 1) := by decide +kernel
theorem dX10_areBoth_10 : decode cX10_areBoth 10 = .ok (.iload_n 0, 1) := by decide +kernel
theorem dX10_areBoth_11 : decode cX10_areBoth 11 = .ok (.i2l, 1) := by decide +kernel
theorem dX10_areBoth_12 : decode cX10_areBoth 12 = .ok (.lconst 1, 1) := by decide +kernel
theorem dX10_areBoth_13 : decode cX10_areBoth 13 = .ok (.lsub, 1) := by decide +kernel
theorem dX10_areBoth_14 : decode cX10_areBoth 14 = .ok (.invokestatic 83, 3) := by decide +kernel
theorem dX10_areBoth_17 : decode cX10_areBoth 17 = .ok (.ifCond .eq 7, 3) := by decide +kernel
theorem dX10_areBoth_20 : decode cX10_areBoth 20 = .ok (.iconst 1, 1) := by decide +kernel
theorem dX10_areBoth_21 : decode cX10_areBoth 21 = .ok (.goto 4, 3) := by decide +kernel
theorem dX10_areBoth_24 : decode cX10_areBoth 24 = .ok (.iconst 0, 1) := by decide +kernel
theorem dX10_areBoth_25 : decode cX10_areBoth 25 = .ok (.ireturn, 1) := by decide +kernel
theorem dX10_both_0 : decode cX10_both 0 = .ok (.aload_n 0, 1) := by decide +kernel
theorem dX10_both_1 : decode cX10_both 1 = .ok (.iconst 0, 1) := by decide +kernel
theorem dX10_both_2 : decode cX10_both 2 = .ok (.putfield 77, 3) := by decide +kernel
theorem dX10_both_5 : decode cX10_both 5 = .ok (.iload_n 1, 1) := by decide +kernel
theorem dX10_both_6 : decode cX10_both 6 = .ok (.iload_n 2, 1) := by decide +kernel
theorem dX10_both_7 : decode cX10_both 7 = .ok (.invokestatic 331, 3) := by decide +kernel
theorem dX10_both_10 : decode cX10_both 10 = .ok (.ifCond .eq 50, 3) := by decide +kernel
theorem dX10_both_13 : decode cX10_both 13 = .ok (.iload_n 3, 1) := by decide +kernel
theorem dX10_both_14 : decode cX10_both 14 = .ok (.i2l, 1) := by decide +kernel
theorem dX10_both_15 : decode cX10_both 15 = .ok (.lconst 0, 1) := by decide +kernel
theorem dX10_both_16 : decode cX10_both 16 = .ok (.ldc2_w 335, 3) := by decide +kernel
theorem dX10_both_19 : decode cX10_both 19 = .ok (.invokestatic 83, 3) := by decide +kernel
theorem dX10_both_22 : decode cX10_both 22 = .ok (.ifCond .eq 38, 3) := by decide +kernel
theorem dX10_both_25 : decode cX10_both 25 = .ok (.iload 4, 2) := by decide +kernel
theorem dX10_both_27 : decode cX10_both 27 = .ok (.i2l, 1) := by decide +kernel
theorem dX10_both_28 : decode cX10_both 28 = .ok (.lconst 0, 1) := by decide +kernel
theorem dX10_both_29 : decode cX10_both 29 = .ok (.lconst 1, 1) := by decide +kernel
theorem dX10_both_30 : decode cX10_both 30 = .ok (.invokestatic 83, 3) := by decide +kernel
theorem dX10_both_33 : decode cX10_both 33 = .ok (.ifCond .eq 27, 3) := by decide +kernel
theorem dX10_both_36 : decode cX10_both 36 = .ok (.iload_n 1, 1) := by decide +kernel
theorem dX10_both_37 : decode cX10_both 37 = .ok (.iload_n 2, 1) := by decide +kernel
theorem dX10_both_38 : decode cX10_both 38 = .ok (.isub, 1) := by decide +kernel
theorem dX10_both_39 : decode cX10_both 39 = .ok (.i2l, 1) := by decide +kernel
theorem dX10_both_40 : decode cX10_both 40 = .ok (.iload_n 3, 1) := by decide +kernel
theorem dX10_both_41 : decode cX10_both 41 = .ok (.invokestatic 337, 3) := by decide +kernel
theorem dX10_both_44 : decode cX10_both 44 = .ok (.iload_n 1, 1) := by decide +kernel
theorem dX10_both_45 : decode cX10_both 45 = .ok (.iload_n 2, 1) := by decide +kernel
theorem dX10_both_46 : decode cX10_both 46 = .ok (.iadd, 1) := by decide +kernel
theorem dX10_both_47 : decode cX10_both 47 = .ok (.i2l, 1) := by decide +kernel
theorem dX10_both_48 : decode cX10_both 48 = .ok (.iload_n 3, 1) := by decide +kernel
theorem dX10_both_49 : decode cX10_both 49 = .ok (.invokestatic 337, 3) := by decide +kernel
theorem dX10_both_52 : decode cX10_both 52 = .ok (.iload 4, 2) := by decide +kernel
theorem dX10_both_54 : decode cX10_both 54 = .ok (.invokestatic 341, 3) := by decide +kernel
theorem dX10_both_57 : decode cX10_both 57 = .ok (.goto 6, 3) := by decide +kernel
theorem dX10_both_60 : decode cX10_both 60 = .ok (.ldc2_w 108, 3) := by decide +kernel
theorem dX10_both_63 : decode cX10_both 63 = .ok (.lreturn, 1) := by decide +kernel
theorem dX10_rounds_0 : decode cX10_rounds 0 = .ok (.aload_n 0, 1) := by decide +kernel
theorem dX10_rounds_1 : decode cX10_rounds 1 = .ok (.iconst 0, 1) := by decide +kernel
theorem dX10_rounds_2 : decode cX10_rounds 2 = .ok (.putfield 77, 3) := by decide +kernel
theorem dX10_rounds_5 : decode cX10_rounds 5 = .ok (.iload_n 1, 1) := by decide +kernel
theorem dX10_rounds_6 : decode cX10_rounds 6 = .ok (.iload_n 2, 1) := by decide +kernel
theorem dX10_rounds_7 : decode cX10_rounds 7 = .ok (.invokestatic 331, 3) := by decide +kernel
theorem dX10_rounds_10 : decode cX10_rounds 10 = .ok (.ifCond .eq 15, 3) := by decide +kernel
theorem dX10_rounds_13 : decode cX10_rounds 13 = .ok (.iload_n 3, 1) := by decide +kernel
theorem dX10_rounds_14 : decode cX10_rounds 14 = .ok (.i2l, 1) := by decide +kernel
theorem dX10_rounds_15 : decode cX10_rounds 15 = .ok (.lconst 0, 1) := by decide +kernel
theorem dX10_rounds_16 : decode cX10_rounds 16 = .ok (.ldc2_w 110, 3) := by decide +kernel
theorem dX10_rounds_19 : decode cX10_rounds 19 = .ok (.invokestatic 83, 3) := by decide +kernel
theorem dX10_rounds_22 : decode cX10_rounds 22 = .ok (.ifCond .ne 5, 3) := by decide +kernel
theorem dX10_rounds_25 : decode cX10_rounds 25 = .ok (.iconst (-1), 1) := by decide +kernel
theorem dX10_rounds_26 : decode cX10_rounds 26 = .ok (.ireturn, 1) := by decide +kernel
theorem dX10_rounds_27 : decode cX10_rounds 27 = .ok (.iconst 0, 1) := by decide +kernel
theorem dX10_rounds_28 : decode cX10_rounds 28 = .ok (.istore 4, 2) := by decide +kernel
theorem dX10_rounds_30 : decode cX10_rounds 30 = .ok (.iload 4, 2) := by decide +kernel
theorem dX10_rounds_32 : decode cX10_rounds 32 = .ok (.bipush 7, 2) := by decide +kernel
theorem dX10_rounds_34 : decode cX10_rounds 34 = .ok (.if_icmp .ge 41, 3) := by decide +kernel
theorem dX10_rounds_37 : decode cX10_rounds 37 = .ok (.ldc2_w 110, 3) := by decide +kernel
theorem dX10_rounds_40 : decode cX10_rounds 40 = .ok (.iload_n 1, 1) := by decide +kernel
theorem dX10_rounds_41 : decode cX10_rounds 41 = .ok (.iload_n 2, 1) := by decide +kernel
theorem dX10_rounds_42 : decode cX10_rounds 42 = .ok (.isub, 1) := by decide +kernel
theorem dX10_rounds_43 : decode cX10_rounds 43 = .ok (.i2l, 1) := by decide +kernel
theorem dX10_rounds_44 : decode cX10_rounds 44 = .ok (.iload 4, 2) := by decide +kernel
theorem dX10_rounds_46 : decode cX10_rounds 46 = .ok (.invokestatic 337, 3) := by decide +kernel
theorem dX10_rounds_49 : decode cX10_rounds 49 = .ok (.lmul, 1) := by decide +kernel
theorem dX10_rounds_50 : decode cX10_rounds 50 = .ok (.iload_n 3, 1) := by decide +kernel
theorem dX10_rounds_51 : decode cX10_rounds 51 = .ok (.i2l, 1) := by decide +kernel
theorem dX10_rounds_52 : decode cX10_rounds 52 = .ok (.iload_n 1, 1) := by decide +kernel
theorem dX10_rounds_53 : decode cX10_rounds 53 = .ok (.iload_n 2, 1) := by decide +kernel
theorem dX10_rounds_54 : decode cX10_rounds 54 = .ok (.iadd, 1) := by decide +kernel
theorem dX10_rounds_55 : decode cX10_rounds 55 = .ok (.i2l, 1) := by decide +kernel
theorem dX10_rounds_56 : decode cX10_rounds 56 = .ok (.iload 4, 2) := by decide +kernel
theorem dX10_rounds_58 : decode cX10_rounds 58 = .ok (.invokestatic 337, 3) := by decide +kernel
theorem dX10_rounds_61 : decode cX10_rounds 61 = .ok (.lmul, 1) := by decide +kernel
theorem dX10_rounds_62 : decode cX10_rounds 62 = .ok (.lcmp, 1) := by decide +kernel
theorem dX10_rounds_63 : decode cX10_rounds 63 = .ok (.ifCond .gt 6, 3) := by decide +kernel
theorem dX10_rounds_66 : decode cX10_rounds 66 = .ok (.iload 4, 2) := by decide +kernel
theorem dX10_rounds_68 : decode cX10_rounds 68 = .ok (.ireturn, 1) := by decide +kernel
theorem dX10_rounds_69 : decode cX10_rounds 69 = .ok (.iinc 4 1, 3) := by decide +kernel
theorem dX10_rounds_72 : decode cX10_rounds 72 = .ok (.goto (-42), 3) := by decide +kernel
theorem dX10_rounds_75 : decode cX10_rounds 75 = .ok (.iconst (-1), 1) := by decide +kernel
theorem dX10_rounds_76 : decode cX10_rounds 76 = .ok (.ireturn, 1) := by decide +kernel
theorem dX10_size_0 : decode cX10_size 0 = .ok (.aload_n 0, 1) := by decide +kernel
theorem dX10_size_1 : decode cX10_size 1 = .ok (.iconst 0, 1) := by decide +kernel
theorem dX10_size_2 : decode cX10_size 2 = .ok (.putfield 77, 3) := by decide +kernel
theorem dX10_size_5 : decode cX10_size 5 = .ok (.iload_n 1, 1) := by decide +kernel
theorem dX10_size_6 : decode cX10_size 6 = .ok (.invokestatic 95, 3) := by decide +kernel
theorem dX10_size_9 : decode cX10_size 9 = .ok (.ifCond .ne 9, 3) := by decide +kernel
theorem dX10_size_12 : decode cX10_size 12 = .ok (.aload_n 0, 1) := by decide +kernel
theorem dX10_size_13 : decode cX10_size 13 = .ok (.iconst (-1), 1) := by decide +kernel
theorem dX10_size_14 : decode cX10_size 14 = .ok (.invokevirtual 87, 3) := by decide +kernel
theorem dX10_size_17 : decode cX10_size 17 = .ok (.ireturn, 1) := by decide +kernel
theorem dX10_size_18 : decode cX10_size 18 = .ok (.aload_n 0, 1) := by decide +kernel
theorem dX10_size_19 : decode cX10_size 19 = .ok (.getfield 13, 3) := by decide +kernel
theorem dX10_size_22 : decode cX10_size 22 = .ok (.iconst 1, 1) := by decide +kernel
theorem dX10_size_23 : decode cX10_size 23 = .ok (.iaload, 1) := by decide +kernel
theorem dX10_size_24 : decode cX10_size 24 = .ok (.istore_n 2, 1) := by decide +kernel
theorem dX10_size_25 : decode cX10_size 25 = .ok (.iload_n 2, 1) := by decide +kernel
theorem dX10_size_26 : decode cX10_size 26 = .ok (.iconst 3, 1) := by decide +kernel
theorem dX10_size_27 : decode cX10_size 27 = .ok (.if_icmp .ne 10, 3) := by decide +kernel
theorem dX10_size_30 : decode cX10_size 30 = .ok (.aload_n 0, 1) := by decide +kernel
theorem dX10_size_31 : decode cX10_size 31 = .ok (.bipush (-5), 2) := by decide +kernel
theorem dX10_size_33 : decode cX10_size 33 = .ok (.invokevirtual 87, 3) := by decide +kernel
theorem dX10_size_36 : decode cX10_size 36 = .ok (.ireturn, 1) := by decide +kernel
theorem dX10_size_37 : decode cX10_size 37 = .ok (.aload_n 0, 1) := by decide +kernel
theorem dX10_size_38 : decode cX10_size 38 = .ok (.getfield 13, 3) := by decide +kernel
theorem dX10_size_41 : decode cX10_size 41 = .ok (.bipush 10, 2) := by decide +kernel
theorem dX10_size_43 : decode cX10_size 43 = .ok (.iload_n 2, 1) := by decide +kernel
theorem dX10_size_44 : decode cX10_size 44 = .ok (.iadd, 1) := by decide +kernel
theorem dX10_size_45 : decode cX10_size 45 = .ok (.iload_n 1, 1) := by decide +kernel
theorem dX10_size_46 : decode cX10_size 46 = .ok (.iastore, 1) := by decide +kernel
theorem dX10_size_47 : decode cX10_size 47 = .ok (.aload_n 0, 1) := by decide +kernel
theorem dX10_size_48 : decode cX10_size 48 = .ok (.getfield 13, 3) := by decide +kernel
theorem dX10_size_51 : decode cX10_size 51 = .ok (.iconst 1, 1) := by decide +kernel
theorem dX10_size_52 : decode cX10_size 52 = .ok (.dup2, 1) := by decide +kernel
theorem dX10_size_53 : decode cX10_size 53 = .ok (.iaload, 1) := by decide +kernel
theorem dX10_size_54 : decode cX10_size 54 = .ok (.iconst 1, 1) := by decide +kernel
theorem dX10_size_55 : decode cX10_size 55 = .ok (.iadd, 1) := by decide +kernel
theorem dX10_size_56 : decode cX10_size 56 = .ok (.iastore, 1) := by decide +kernel
theorem dX10_size_57 : decode cX10_size 57 = .ok (.aload_n 0, 1) := by decide +kernel
theorem dX10_size_58 : decode cX10_size 58 = .ok (.iload_n 2, 1) := by decide +kernel
theorem dX10_size_59 : decode cX10_size 59 = .ok (.invokevirtual 87, 3) := by decide +kernel
theorem dX10_size_62 : decode cX10_size 62 = .ok (.ireturn, 1) := by decide +kernel
theorem dX10_wash_0 : decode cX10_wash 0 = .ok (.aload_n 0, 1) := by decide +kernel
theorem dX10_wash_1 : decode cX10_wash 1 = .ok (.iconst 0, 1) := by decide +kernel
theorem dX10_wash_2 : decode cX10_wash 2 = .ok (.putfield 77, 3) := by decide +kernel
theorem dX10_wash_5 : decode cX10_wash 5 = .ok (.aload_n 0, 1) := by decide +kernel
theorem dX10_wash_6 : decode cX10_wash 6 = .ok (.getfield 13, 3) := by decide +kernel
theorem dX10_wash_9 : decode cX10_wash 9 = .ok (.iconst 1, 1) := by decide +kernel
theorem dX10_wash_10 : decode cX10_wash 10 = .ok (.iaload, 1) := by decide +kernel
theorem dX10_wash_11 : decode cX10_wash 11 = .ok (.aload_n 0, 1) := by decide +kernel
theorem dX10_wash_12 : decode cX10_wash 12 = .ok (.getfield 13, 3) := by decide +kernel
theorem dX10_wash_15 : decode cX10_wash 15 = .ok (.iconst 2, 1) := by decide +kernel
theorem dX10_wash_16 : decode cX10_wash 16 = .ok (.iaload, 1) := by decide +kernel
theorem dX10_wash_17 : decode cX10_wash 17 = .ok (.iadd, 1) := by decide +kernel
theorem dX10_wash_18 : decode cX10_wash 18 = .ok (.istore_n 1, 1) := by decide +kernel
theorem dX10_wash_19 : decode cX10_wash 19 = .ok (.aload_n 0, 1) := by decide +kernel
theorem dX10_wash_20 : decode cX10_wash 20 = .ok (.getfield 13, 3) := by decide +kernel
theorem dX10_wash_23 : decode cX10_wash 23 = .ok (.iconst 1, 1) := by decide +kernel
theorem dX10_wash_24 : decode cX10_wash 24 = .ok (.iconst 0, 1) := by decide +kernel
theorem dX10_wash_25 : decode cX10_wash 25 = .ok (.iastore, 1) := by decide +kernel
theorem dX10_wash_26 : decode cX10_wash 26 = .ok (.aload_n 0, 1) := by decide +kernel
theorem dX10_wash_27 : decode cX10_wash 27 = .ok (.getfield 13, 3) := by decide +kernel
theorem dX10_wash_30 : decode cX10_wash 30 = .ok (.iconst 2, 1) := by decide +kernel
theorem dX10_wash_31 : decode cX10_wash 31 = .ok (.iconst 0, 1) := by decide +kernel
theorem dX10_wash_32 : decode cX10_wash 32 = .ok (.iastore, 1) := by decide +kernel
theorem dX10_wash_33 : decode cX10_wash 33 = .ok (.iload_n 1, 1) := by decide +kernel
theorem dX10_wash_34 : decode cX10_wash 34 = .ok (.ireturn, 1) := by decide +kernel
theorem dX10_tasting_0 : decode cX10_tasting 0 = .ok (.aload_n 0, 1) := by decide +kernel
theorem dX10_tasting_1 : decode cX10_tasting 1 = .ok (.iconst 0, 1) := by decide +kernel
theorem dX10_tasting_2 : decode cX10_tasting 2 = .ok (.putfield 77, 3) := by decide +kernel
theorem dX10_tasting_5 : decode cX10_tasting 5 = .ok (.iload_n 2, 1) := by decide +kernel
theorem dX10_tasting_6 : decode cX10_tasting 6 = .ok (.invokestatic 105, 3) := by decide +kernel
theorem dX10_tasting_9 : decode cX10_tasting 9 = .ok (.ifCond .eq 15, 3) := by decide +kernel
theorem dX10_tasting_12 : decode cX10_tasting 12 = .ok (.iload_n 3, 1) := by decide +kernel
theorem dX10_tasting_13 : decode cX10_tasting 13 = .ok (.i2l, 1) := by decide +kernel
theorem dX10_tasting_14 : decode cX10_tasting 14 = .ok (.lconst 0, 1) := by decide +kernel
theorem dX10_tasting_15 : decode cX10_tasting 15 = .ok (.ldc2_w 110, 3) := by decide +kernel
theorem dX10_tasting_18 : decode cX10_tasting 18 = .ok (.invokestatic 83, 3) := by decide +kernel
theorem dX10_tasting_21 : decode cX10_tasting 21 = .ok (.ifCond .ne 9, 3) := by decide +kernel
theorem dX10_tasting_24 : decode cX10_tasting 24 = .ok (.aload_n 0, 1) := by decide +kernel
theorem dX10_tasting_25 : decode cX10_tasting 25 = .ok (.iconst (-1), 1) := by decide +kernel
theorem dX10_tasting_26 : decode cX10_tasting 26 = .ok (.invokevirtual 87, 3) := by decide +kernel
theorem dX10_tasting_29 : decode cX10_tasting 29 = .ok (.ireturn, 1) := by decide +kernel
theorem dX10_tasting_30 : decode cX10_tasting 30 = .ok (.aload_n 0, 1) := by decide +kernel
theorem dX10_tasting_31 : decode cX10_tasting 31 = .ok (.iload_n 1, 1) := by decide +kernel
theorem dX10_tasting_32 : decode cX10_tasting 32 = .ok (.invokevirtual 102, 3) := by decide +kernel
theorem dX10_tasting_35 : decode cX10_tasting 35 = .ok (.ifCond .ne 10, 3) := by decide +kernel
theorem dX10_tasting_38 : decode cX10_tasting 38 = .ok (.aload_n 0, 1) := by decide +kernel
theorem dX10_tasting_39 : decode cX10_tasting 39 = .ok (.bipush (-2), 2) := by decide +kernel
theorem dX10_tasting_41 : decode cX10_tasting 41 = .ok (.invokevirtual 87, 3) := by decide +kernel
theorem dX10_tasting_44 : decode cX10_tasting 44 = .ok (.ireturn, 1) := by decide +kernel
theorem dX10_tasting_45 : decode cX10_tasting 45 = .ok (.aload_n 0, 1) := by decide +kernel
theorem dX10_tasting_46 : decode cX10_tasting 46 = .ok (.getfield 13, 3) := by decide +kernel
theorem dX10_tasting_49 : decode cX10_tasting 49 = .ok (.iconst 2, 1) := by decide +kernel
theorem dX10_tasting_50 : decode cX10_tasting 50 = .ok (.iaload, 1) := by decide +kernel
theorem dX10_tasting_51 : decode cX10_tasting 51 = .ok (.istore 4, 2) := by decide +kernel
theorem dX10_tasting_53 : decode cX10_tasting 53 = .ok (.iload 4, 2) := by decide +kernel
theorem dX10_tasting_55 : decode cX10_tasting 55 = .ok (.bipush 6, 2) := by decide +kernel
theorem dX10_tasting_57 : decode cX10_tasting 57 = .ok (.if_icmp .ne 10, 3) := by decide +kernel
theorem dX10_tasting_60 : decode cX10_tasting 60 = .ok (.aload_n 0, 1) := by decide +kernel
theorem dX10_tasting_61 : decode cX10_tasting 61 = .ok (.bipush (-5), 2) := by decide +kernel
theorem dX10_tasting_63 : decode cX10_tasting 63 = .ok (.invokevirtual 87, 3) := by decide +kernel
theorem dX10_tasting_66 : decode cX10_tasting 66 = .ok (.ireturn, 1) := by decide +kernel
theorem dX10_tasting_67 : decode cX10_tasting 67 = .ok (.aload_n 0, 1) := by decide +kernel
theorem dX10_tasting_68 : decode cX10_tasting 68 = .ok (.getfield 13, 3) := by decide +kernel
theorem dX10_tasting_71 : decode cX10_tasting 71 = .ok (.bipush 13, 2) := by decide +kernel
theorem dX10_tasting_73 : decode cX10_tasting 73 = .ok (.iconst 3, 1) := by decide +kernel
theorem dX10_tasting_74 : decode cX10_tasting 74 = .ok (.iload 4, 2) := by decide +kernel
theorem dX10_tasting_76 : decode cX10_tasting 76 = .ok (.imul, 1) := by decide +kernel
theorem dX10_tasting_77 : decode cX10_tasting 77 = .ok (.iadd, 1) := by decide +kernel
theorem dX10_tasting_78 : decode cX10_tasting 78 = .ok (.iload_n 1, 1) := by decide +kernel
theorem dX10_tasting_79 : decode cX10_tasting 79 = .ok (.iastore, 1) := by decide +kernel
theorem dX10_tasting_80 : decode cX10_tasting 80 = .ok (.aload_n 0, 1) := by decide +kernel
theorem dX10_tasting_81 : decode cX10_tasting 81 = .ok (.getfield 13, 3) := by decide +kernel
theorem dX10_tasting_84 : decode cX10_tasting 84 = .ok (.bipush 13, 2) := by decide +kernel
theorem dX10_tasting_86 : decode cX10_tasting 86 = .ok (.iconst 3, 1) := by decide +kernel
theorem dX10_tasting_87 : decode cX10_tasting 87 = .ok (.iload 4, 2) := by decide +kernel
theorem dX10_tasting_89 : decode cX10_tasting 89 = .ok (.imul, 1) := by decide +kernel
theorem dX10_tasting_90 : decode cX10_tasting 90 = .ok (.iadd, 1) := by decide +kernel
theorem dX10_tasting_91 : decode cX10_tasting 91 = .ok (.iconst 1, 1) := by decide +kernel
theorem dX10_tasting_92 : decode cX10_tasting 92 = .ok (.iadd, 1) := by decide +kernel
theorem dX10_tasting_93 : decode cX10_tasting 93 = .ok (.iload_n 2, 1) := by decide +kernel
theorem dX10_tasting_94 : decode cX10_tasting 94 = .ok (.iastore, 1) := by decide +kernel
theorem dX10_tasting_95 : decode cX10_tasting 95 = .ok (.aload_n 0, 1) := by decide +kernel
theorem dX10_tasting_96 : decode cX10_tasting 96 = .ok (.getfield 13, 3) := by decide +kernel
theorem dX10_tasting_99 : decode cX10_tasting 99 = .ok (.bipush 13, 2) := by decide +kernel
theorem dX10_tasting_101 : decode cX10_tasting 101 = .ok (.iconst 3, 1) := by decide +kernel
theorem dX10_tasting_102 : decode cX10_tasting 102 = .ok (.iload 4, 2) := by decide +kernel
theorem dX10_tasting_104 : decode cX10_tasting 104 = .ok (.imul, 1) := by decide +kernel
theorem dX10_tasting_105 : decode cX10_tasting 105 = .ok (.iadd, 1) := by decide +kernel
theorem dX10_tasting_106 : decode cX10_tasting 106 = .ok (.iconst 2, 1) := by decide +kernel
theorem dX10_tasting_107 : decode cX10_tasting 107 = .ok (.iadd, 1) := by decide +kernel
theorem dX10_tasting_108 : decode cX10_tasting 108 = .ok (.iload_n 3, 1) := by decide +kernel
theorem dX10_tasting_109 : decode cX10_tasting 109 = .ok (.iastore, 1) := by decide +kernel
theorem dX10_tasting_110 : decode cX10_tasting 110 = .ok (.aload_n 0, 1) := by decide +kernel
theorem dX10_tasting_111 : decode cX10_tasting 111 = .ok (.getfield 13, 3) := by decide +kernel
theorem dX10_tasting_114 : decode cX10_tasting 114 = .ok (.iconst 2, 1) := by decide +kernel
theorem dX10_tasting_115 : decode cX10_tasting 115 = .ok (.dup2, 1) := by decide +kernel
theorem dX10_tasting_116 : decode cX10_tasting 116 = .ok (.iaload, 1) := by decide +kernel
theorem dX10_tasting_117 : decode cX10_tasting 117 = .ok (.iconst 1, 1) := by decide +kernel
theorem dX10_tasting_118 : decode cX10_tasting 118 = .ok (.iadd, 1) := by decide +kernel
theorem dX10_tasting_119 : decode cX10_tasting 119 = .ok (.iastore, 1) := by decide +kernel
theorem dX10_tasting_120 : decode cX10_tasting 120 = .ok (.aload_n 0, 1) := by decide +kernel
theorem dX10_tasting_121 : decode cX10_tasting 121 = .ok (.iload 4, 2) := by decide +kernel
theorem dX10_tasting_123 : decode cX10_tasting 123 = .ok (.iconst 1, 1) := by decide +kernel
theorem dX10_tasting_124 : decode cX10_tasting 124 = .ok (.iadd, 1) := by decide +kernel
theorem dX10_tasting_125 : decode cX10_tasting 125 = .ok (.invokevirtual 87, 3) := by decide +kernel
theorem dX10_tasting_128 : decode cX10_tasting 128 = .ok (.ireturn, 1) := by decide +kernel
theorem dX10_isWish_0 : decode cX10_isWish 0 = .ok (.aload_n 0, 1) := by decide +kernel
theorem dX10_isWish_1 : decode cX10_isWish 1 = .ok (.getfield 345, 3) := by decide +kernel
theorem dX10_isWish_4 : decode cX10_isWish 4 = .ok (.iconst (-1), 1) := by decide +kernel
theorem dX10_isWish_5 : decode cX10_isWish 5 = .ok (.if_icmp .eq 85, 3) := by decide +kernel
theorem dX10_isWish_8 : decode cX10_isWish 8 = .ok (.aload_n 0, 1) := by decide +kernel
theorem dX10_isWish_9 : decode cX10_isWish 9 = .ok (.aload_n 0, 1) := by decide +kernel
theorem dX10_isWish_10 : decode cX10_isWish 10 = .ok (.getfield 345, 3) := by decide +kernel
theorem dX10_isWish_13 : decode cX10_isWish 13 = .ok (.invokevirtual 99, 3) := by decide +kernel
theorem dX10_isWish_16 : decode cX10_isWish 16 = .ok (.i2l, 1) := by decide +kernel
theorem dX10_isWish_17 : decode cX10_isWish 17 = .ok (.aload_n 0, 1) := by decide +kernel
theorem dX10_isWish_18 : decode cX10_isWish 18 = .ok (.getfield 19, 3) := by decide +kernel
theorem dX10_isWish_21 : decode cX10_isWish 21 = .ok (.bipush 24, 2) := by decide +kernel
theorem dX10_isWish_23 : decode cX10_isWish 23 = .ok (.laload, 1) := by decide +kernel
theorem dX10_isWish_24 : decode cX10_isWish 24 = .ok (.lmul, 1) := by decide +kernel
theorem dX10_isWish_25 : decode cX10_isWish 25 = .ok (.lstore_n 1, 1) := by decide +kernel
theorem dX10_isWish_26 : decode cX10_isWish 26 = .ok (.ldc2_w 110, 3) := by decide +kernel
theorem dX10_isWish_29 : decode cX10_isWish 29 = .ok (.aload_n 0, 1) := by decide +kernel
theorem dX10_isWish_30 : decode cX10_isWish 30 = .ok (.getfield 19, 3) := by decide +kernel
theorem dX10_isWish_33 : decode cX10_isWish 33 = .ok (.iconst 4, 1) := by decide +kernel
theorem dX10_isWish_34 : decode cX10_isWish 34 = .ok (.aload_n 0, 1) := by decide +kernel
theorem dX10_isWish_35 : decode cX10_isWish 35 = .ok (.getfield 345, 3) := by decide +kernel
theorem dX10_isWish_38 : decode cX10_isWish 38 = .ok (.imul, 1) := by decide +kernel
theorem dX10_isWish_39 : decode cX10_isWish 39 = .ok (.aload_n 0, 1) := by decide +kernel
theorem dX10_isWish_40 : decode cX10_isWish 40 = .ok (.getfield 348, 3) := by decide +kernel
theorem dX10_isWish_43 : decode cX10_isWish 43 = .ok (.iadd, 1) := by decide +kernel
theorem dX10_isWish_44 : decode cX10_isWish 44 = .ok (.laload, 1) := by decide +kernel
theorem dX10_isWish_45 : decode cX10_isWish 45 = .ok (.lmul, 1) := by decide +kernel
theorem dX10_isWish_46 : decode cX10_isWish 46 = .ok (.aload_n 0, 1) := by decide +kernel
theorem dX10_isWish_47 : decode cX10_isWish 47 = .ok (.getfield 351, 3) := by decide +kernel
theorem dX10_isWish_50 : decode cX10_isWish 50 = .ok (.i2l, 1) := by decide +kernel
theorem dX10_isWish_51 : decode cX10_isWish 51 = .ok (.lload_n 1, 1) := by decide +kernel
theorem dX10_isWish_52 : decode cX10_isWish 52 = .ok (.lmul, 1) := by decide +kernel
theorem dX10_isWish_53 : decode cX10_isWish 53 = .ok (.lsub, 1) := by decide +kernel
theorem dX10_isWish_54 : decode cX10_isWish 54 = .ok (.lstore_n 3, 1) := by decide +kernel
theorem dX10_isWish_55 : decode cX10_isWish 55 = .ok (.lload_n 1, 1) := by decide +kernel
theorem dX10_isWish_56 : decode cX10_isWish 56 = .ok (.lconst 0, 1) := by decide +kernel
theorem dX10_isWish_57 : decode cX10_isWish 57 = .ok (.lcmp, 1) := by decide +kernel
theorem dX10_isWish_58 : decode cX10_isWish 58 = .ok (.ifCond .le 30, 3) := by decide +kernel
theorem dX10_isWish_61 : decode cX10_isWish 61 = .ok (.lload_n 3, 1) := by decide +kernel
theorem dX10_isWish_62 : decode cX10_isWish 62 = .ok (.lconst 0, 1) := by decide +kernel
theorem dX10_isWish_63 : decode cX10_isWish 63 = .ok (.lcmp, 1) := by decide +kernel
theorem dX10_isWish_64 : decode cX10_isWish 64 = .ok (.ifCond .ge 8, 3) := by decide +kernel
theorem dX10_isWish_67 : decode cX10_isWish 67 = .ok (.lload_n 3, 1) := by decide +kernel
theorem dX10_isWish_68 : decode cX10_isWish 68 = .ok (.lneg, 1) := by decide +kernel
theorem dX10_isWish_69 : decode cX10_isWish 69 = .ok (.goto 4, 3) := by decide +kernel
theorem dX10_isWish_72 : decode cX10_isWish 72 = .ok (.lload_n 3, 1) := by decide +kernel
theorem dX10_isWish_73 : decode cX10_isWish 73 = .ok (.aload_n 0, 1) := by decide +kernel
theorem dX10_isWish_74 : decode cX10_isWish 74 = .ok (.getfield 354, 3) := by decide +kernel
theorem dX10_isWish_77 : decode cX10_isWish 77 = .ok (.i2l, 1) := by decide +kernel
theorem dX10_isWish_78 : decode cX10_isWish 78 = .ok (.lload_n 1, 1) := by decide +kernel
theorem dX10_isWish_79 : decode cX10_isWish 79 = .ok (.lmul, 1) := by decide +kernel
theorem dX10_isWish_80 : decode cX10_isWish 80 = .ok (.lcmp, 1) := by decide +kernel
theorem dX10_isWish_81 : decode cX10_isWish 81 = .ok (.ifCond .gt 7, 3) := by decide +kernel
theorem dX10_isWish_84 : decode cX10_isWish 84 = .ok (.iconst 1, 1) := by decide +kernel
theorem dX10_isWish_85 : decode cX10_isWish 85 = .ok (.goto 4, 3) := by decide +kernel
theorem dX10_isWish_88 : decode cX10_isWish 88 = .ok (.iconst 0, 1) := by decide +kernel
theorem dX10_isWish_89 : decode cX10_isWish 89 = .ok (.ireturn, 1) := by decide +kernel
theorem dX10_isWish_90 : decode cX10_isWish 90 = .ok (.iconst 1, 1) := by decide +kernel
theorem dX10_isWish_91 : decode cX10_isWish 91 = .ok (.istore_n 1, 1) := by decide +kernel
theorem dX10_isWish_92 : decode cX10_isWish 92 = .ok (.iconst 0, 1) := by decide +kernel
theorem dX10_isWish_93 : decode cX10_isWish 93 = .ok (.istore_n 2, 1) := by decide +kernel
theorem dX10_isWish_94 : decode cX10_isWish 94 = .ok (.iload_n 2, 1) := by decide +kernel
theorem dX10_isWish_95 : decode cX10_isWish 95 = .ok (.aload_n 0, 1) := by decide +kernel
theorem dX10_isWish_96 : decode cX10_isWish 96 = .ok (.getfield 13, 3) := by decide +kernel
theorem dX10_isWish_99 : decode cX10_isWish 99 = .ok (.iconst 2, 1) := by decide +kernel
theorem dX10_isWish_100 : decode cX10_isWish 100 = .ok (.iaload, 1) := by decide +kernel
theorem dX10_isWish_101 : decode cX10_isWish 101 = .ok (.if_icmp .ge 55, 3) := by decide +kernel
theorem dX10_isWish_104 : decode cX10_isWish 104 = .ok (.bipush 13, 2) := by decide +kernel
theorem dX10_isWish_106 : decode cX10_isWish 106 = .ok (.iconst 3, 1) := by decide +kernel
theorem dX10_isWish_107 : decode cX10_isWish 107 = .ok (.iload_n 2, 1) := by decide +kernel
theorem dX10_isWish_108 : decode cX10_isWish 108 = .ok (.imul, 1) := by decide +kernel
theorem dX10_isWish_109 : decode cX10_isWish 109 = .ok (.iadd, 1) := by decide +kernel
theorem dX10_isWish_110 : decode cX10_isWish 110 = .ok (.istore_n 3, 1) := by decide +kernel
theorem dX10_isWish_111 : decode cX10_isWish 111 = .ok (.iload_n 1, 1) := by decide +kernel
theorem dX10_isWish_112 : decode cX10_isWish 112 = .ok (.ifCond .eq 36, 3) := by decide +kernel
theorem dX10_isWish_115 : decode cX10_isWish 115 = .ok (.aload_n 0, 1) := by decide +kernel
theorem dX10_isWish_116 : decode cX10_isWish 116 = .ok (.aload_n 0, 1) := by decide +kernel
theorem dX10_isWish_117 : decode cX10_isWish 117 = .ok (.getfield 13, 3) := by decide +kernel
theorem dX10_isWish_120 : decode cX10_isWish 120 = .ok (.iload_n 3, 1) := by decide +kernel
theorem dX10_isWish_121 : decode cX10_isWish 121 = .ok (.iaload, 1) := by decide +kernel
theorem dX10_isWish_122 : decode cX10_isWish 122 = .ok (.aload_n 0, 1) := by decide +kernel
theorem dX10_isWish_123 : decode cX10_isWish 123 = .ok (.getfield 13, 3) := by decide +kernel
theorem dX10_isWish_126 : decode cX10_isWish 126 = .ok (.iload_n 3, 1) := by decide +kernel
theorem dX10_isWish_127 : decode cX10_isWish 127 = .ok (.iconst 1, 1) := by decide +kernel
theorem dX10_isWish_128 : decode cX10_isWish 128 = .ok (.iadd, 1) := by decide +kernel
theorem dX10_isWish_129 : decode cX10_isWish 129 = .ok (.iaload, 1) := by decide +kernel
theorem dX10_isWish_130 : decode cX10_isWish 130 = .ok (.invokevirtual 112, 3) := by decide +kernel
theorem dX10_isWish_133 : decode cX10_isWish 133 = .ok (.aload_n 0, 1) := by decide +kernel
theorem dX10_isWish_134 : decode cX10_isWish 134 = .ok (.getfield 13, 3) := by decide +kernel
theorem dX10_isWish_137 : decode cX10_isWish 137 = .ok (.iload_n 3, 1) := by decide +kernel
theorem dX10_isWish_138 : decode cX10_isWish 138 = .ok (.iconst 2, 1) := by decide +kernel
theorem dX10_isWish_139 : decode cX10_isWish 139 = .ok (.iadd, 1) := by decide +kernel
theorem dX10_isWish_140 : decode cX10_isWish 140 = .ok (.iaload, 1) := by decide +kernel
theorem dX10_isWish_141 : decode cX10_isWish 141 = .ok (.if_icmp .ne 7, 3) := by decide +kernel
theorem dX10_isWish_144 : decode cX10_isWish 144 = .ok (.iconst 1, 1) := by decide +kernel
theorem dX10_isWish_145 : decode cX10_isWish 145 = .ok (.goto 4, 3) := by decide +kernel
theorem dX10_isWish_148 : decode cX10_isWish 148 = .ok (.iconst 0, 1) := by decide +kernel
theorem dX10_isWish_149 : decode cX10_isWish 149 = .ok (.istore_n 1, 1) := by decide +kernel
theorem dX10_isWish_150 : decode cX10_isWish 150 = .ok (.iinc 2 1, 3) := by decide +kernel
theorem dX10_isWish_153 : decode cX10_isWish 153 = .ok (.goto (-59), 3) := by decide +kernel
theorem dX10_isWish_156 : decode cX10_isWish 156 = .ok (.iload_n 1, 1) := by decide +kernel
theorem dX10_isWish_157 : decode cX10_isWish 157 = .ok (.ireturn, 1) := by decide +kernel
theorem dX10_goThrough_0 : decode cX10_goThrough 0 = .ok (.aload_n 0, 1) := by decide +kernel
theorem dX10_goThrough_1 : decode cX10_goThrough 1 = .ok (.iconst 0, 1) := by decide +kernel
theorem dX10_goThrough_2 : decode cX10_goThrough 2 = .ok (.putfield 357, 3) := by decide +kernel
theorem dX10_goThrough_5 : decode cX10_goThrough 5 = .ok (.bipush 9, 2) := by decide +kernel
theorem dX10_goThrough_7 : decode cX10_goThrough 7 = .ok (.aload_n 0, 1) := by decide +kernel
theorem dX10_goThrough_8 : decode cX10_goThrough 8 = .ok (.getfield 13, 3) := by decide +kernel
theorem dX10_goThrough_11 : decode cX10_goThrough 11 = .ok (.iconst 1, 1) := by decide +kernel
theorem dX10_goThrough_12 : decode cX10_goThrough 12 = .ok (.iaload, 1) := by decide +kernel
theorem dX10_goThrough_13 : decode cX10_goThrough 13 = .ok (.imul, 1) := by decide +kernel
theorem dX10_goThrough_14 : decode cX10_goThrough 14 = .ok (.istore_n 2, 1) := by decide +kernel
theorem dX10_goThrough_15 : decode cX10_goThrough 15 = .ok (.aload_n 0, 1) := by decide +kernel
theorem dX10_goThrough_16 : decode cX10_goThrough 16 = .ok (.bipush 50, 2) := by decide +kernel
theorem dX10_goThrough_18 : decode cX10_goThrough 18 = .ok (.invokevirtual 123, 3) := by decide +kernel
theorem dX10_goThrough_21 : decode cX10_goThrough 21 = .ok (.iconst 0, 1) := by decide +kernel
theorem dX10_goThrough_22 : decode cX10_goThrough 22 = .ok (.istore_n 3, 1) := by decide +kernel
theorem dX10_goThrough_23 : decode cX10_goThrough 23 = .ok (.aload_n 0, 1) := by decide +kernel
theorem dX10_goThrough_24 : decode cX10_goThrough 24 = .ok (.getfield 64, 3) := by decide +kernel
theorem dX10_goThrough_27 : decode cX10_goThrough 27 = .ok (.iconst 0, 1) := by decide +kernel
theorem dX10_goThrough_28 : decode cX10_goThrough 28 = .ok (.iconst (-1), 1) := by decide +kernel
theorem dX10_goThrough_29 : decode cX10_goThrough 29 = .ok (.iastore, 1) := by decide +kernel
theorem dX10_goThrough_30 : decode cX10_goThrough 30 = .ok (.iload_n 1, 1) := by decide +kernel
theorem dX10_goThrough_31 : decode cX10_goThrough 31 = .ok (.ifCond .ne 20, 3) := by decide +kernel
theorem dX10_goThrough_34 : decode cX10_goThrough 34 = .ok (.aload_n 0, 1) := by decide +kernel
theorem dX10_goThrough_35 : decode cX10_goThrough 35 = .ok (.aload_n 0, 1) := by decide +kernel
theorem dX10_goThrough_36 : decode cX10_goThrough 36 = .ok (.invokevirtual 360, 3) := by decide +kernel
theorem dX10_goThrough_39 : decode cX10_goThrough 39 = .ok (.ifCond .eq 7, 3) := by decide +kernel
theorem dX10_goThrough_42 : decode cX10_goThrough 42 = .ok (.iconst 1, 1) := by decide +kernel
theorem dX10_goThrough_43 : decode cX10_goThrough 43 = .ok (.goto 4, 3) := by decide +kernel
theorem dX10_goThrough_46 : decode cX10_goThrough 46 = .ok (.iconst 0, 1) := by decide +kernel
theorem dX10_goThrough_47 : decode cX10_goThrough 47 = .ok (.putfield 357, 3) := by decide +kernel
theorem dX10_goThrough_50 : decode cX10_goThrough 50 = .ok (.return_, 1) := by decide +kernel
theorem dX10_goThrough_51 : decode cX10_goThrough 51 = .ok (.iload_n 3, 1) := by decide +kernel
theorem dX10_goThrough_52 : decode cX10_goThrough 52 = .ok (.ifCond .lt 99, 3) := by decide +kernel
theorem dX10_goThrough_55 : decode cX10_goThrough 55 = .ok (.aload_n 0, 1) := by decide +kernel
theorem dX10_goThrough_56 : decode cX10_goThrough 56 = .ok (.getfield 64, 3) := by decide +kernel
theorem dX10_goThrough_59 : decode cX10_goThrough 59 = .ok (.iload_n 3, 1) := by decide +kernel
theorem dX10_goThrough_60 : decode cX10_goThrough 60 = .ok (.dup2, 1) := by decide +kernel
theorem dX10_goThrough_61 : decode cX10_goThrough 61 = .ok (.iaload, 1) := by decide +kernel
theorem dX10_goThrough_62 : decode cX10_goThrough 62 = .ok (.iconst 1, 1) := by decide +kernel
theorem dX10_goThrough_63 : decode cX10_goThrough 63 = .ok (.iadd, 1) := by decide +kernel
theorem dX10_goThrough_64 : decode cX10_goThrough 64 = .ok (.iastore, 1) := by decide +kernel
theorem dX10_goThrough_65 : decode cX10_goThrough 65 = .ok (.aload_n 0, 1) := by decide +kernel
theorem dX10_goThrough_66 : decode cX10_goThrough 66 = .ok (.bipush 50, 2) := by decide +kernel
theorem dX10_goThrough_68 : decode cX10_goThrough 68 = .ok (.bipush 25, 2) := by decide +kernel
theorem dX10_goThrough_70 : decode cX10_goThrough 70 = .ok (.iload_n 3, 1) := by decide +kernel
theorem dX10_goThrough_71 : decode cX10_goThrough 71 = .ok (.imul, 1) := by decide +kernel
theorem dX10_goThrough_72 : decode cX10_goThrough 72 = .ok (.iadd, 1) := by decide +kernel
theorem dX10_goThrough_73 : decode cX10_goThrough 73 = .ok (.invokevirtual 132, 3) := by decide +kernel
theorem dX10_goThrough_76 : decode cX10_goThrough 76 = .ok (.aload_n 0, 1) := by decide +kernel
theorem dX10_goThrough_77 : decode cX10_goThrough 77 = .ok (.getfield 64, 3) := by decide +kernel
theorem dX10_goThrough_80 : decode cX10_goThrough 80 = .ok (.iload_n 3, 1) := by decide +kernel
theorem dX10_goThrough_81 : decode cX10_goThrough 81 = .ok (.iaload, 1) := by decide +kernel
theorem dX10_goThrough_82 : decode cX10_goThrough 82 = .ok (.iload_n 2, 1) := by decide +kernel
theorem dX10_goThrough_83 : decode cX10_goThrough 83 = .ok (.if_icmp .ne 9, 3) := by decide +kernel
theorem dX10_goThrough_86 : decode cX10_goThrough 86 = .ok (.iinc 3 (-1), 3) := by decide +kernel
theorem dX10_goThrough_89 : decode cX10_goThrough 89 = .ok (.goto (-38), 3) := by decide +kernel
theorem dX10_goThrough_92 : decode cX10_goThrough 92 = .ok (.aload_n 0, 1) := by decide +kernel
theorem dX10_goThrough_93 : decode cX10_goThrough 93 = .ok (.aload_n 0, 1) := by decide +kernel
theorem dX10_goThrough_94 : decode cX10_goThrough 94 = .ok (.getfield 64, 3) := by decide +kernel
theorem dX10_goThrough_97 : decode cX10_goThrough 97 = .ok (.iload_n 3, 1) := by decide +kernel
theorem dX10_goThrough_98 : decode cX10_goThrough 98 = .ok (.iaload, 1) := by decide +kernel
theorem dX10_goThrough_99 : decode cX10_goThrough 99 = .ok (.invokevirtual 363, 3) := by decide +kernel
theorem dX10_goThrough_102 : decode cX10_goThrough 102 = .ok (.ifCond .eq (-51), 3) := by decide +kernel
theorem dX10_goThrough_105 : decode cX10_goThrough 105 = .ok (.iload_n 3, 1) := by decide +kernel
theorem dX10_goThrough_106 : decode cX10_goThrough 106 = .ok (.iload_n 1, 1) := by decide +kernel
theorem dX10_goThrough_107 : decode cX10_goThrough 107 = .ok (.iconst 1, 1) := by decide +kernel
theorem dX10_goThrough_108 : decode cX10_goThrough 108 = .ok (.isub, 1) := by decide +kernel
theorem dX10_goThrough_109 : decode cX10_goThrough 109 = .ok (.if_icmp .ne 18, 3) := by decide +kernel
theorem dX10_goThrough_112 : decode cX10_goThrough 112 = .ok (.aload_n 0, 1) := by decide +kernel
theorem dX10_goThrough_113 : decode cX10_goThrough 113 = .ok (.invokevirtual 360, 3) := by decide +kernel
theorem dX10_goThrough_116 : decode cX10_goThrough 116 = .ok (.ifCond .eq (-65), 3) := by decide +kernel
theorem dX10_goThrough_119 : decode cX10_goThrough 119 = .ok (.aload_n 0, 1) := by decide +kernel
theorem dX10_goThrough_120 : decode cX10_goThrough 120 = .ok (.iload_n 1, 1) := by decide +kernel
theorem dX10_goThrough_121 : decode cX10_goThrough 121 = .ok (.invokevirtual 366, 3) := by decide +kernel
theorem dX10_goThrough_124 : decode cX10_goThrough 124 = .ok (.goto (-73), 3) := by decide +kernel
theorem dX10_goThrough_127 : decode cX10_goThrough 127 = .ok (.iinc 3 1, 3) := by decide +kernel
theorem dX10_goThrough_130 : decode cX10_goThrough 130 = .ok (.aload_n 0, 1) := by decide +kernel
theorem dX10_goThrough_131 : decode cX10_goThrough 131 = .ok (.bipush 50, 2) := by decide +kernel
theorem dX10_goThrough_133 : decode cX10_goThrough 133 = .ok (.bipush 25, 2) := by decide +kernel
theorem dX10_goThrough_135 : decode cX10_goThrough 135 = .ok (.iload_n 3, 1) := by decide +kernel
theorem dX10_goThrough_136 : decode cX10_goThrough 136 = .ok (.imul, 1) := by decide +kernel
theorem dX10_goThrough_137 : decode cX10_goThrough 137 = .ok (.iadd, 1) := by decide +kernel
theorem dX10_goThrough_138 : decode cX10_goThrough 138 = .ok (.invokevirtual 123, 3) := by decide +kernel
theorem dX10_goThrough_141 : decode cX10_goThrough 141 = .ok (.aload_n 0, 1) := by decide +kernel
theorem dX10_goThrough_142 : decode cX10_goThrough 142 = .ok (.getfield 64, 3) := by decide +kernel
theorem dX10_goThrough_145 : decode cX10_goThrough 145 = .ok (.iload_n 3, 1) := by decide +kernel
theorem dX10_goThrough_146 : decode cX10_goThrough 146 = .ok (.iconst (-1), 1) := by decide +kernel
theorem dX10_goThrough_147 : decode cX10_goThrough 147 = .ok (.iastore, 1) := by decide +kernel
theorem dX10_goThrough_148 : decode cX10_goThrough 148 = .ok (.goto (-97), 3) := by decide +kernel
theorem dX10_goThrough_151 : decode cX10_goThrough 151 = .ok (.aload_n 0, 1) := by decide +kernel
theorem dX10_goThrough_152 : decode cX10_goThrough 152 = .ok (.bipush 50, 2) := by decide +kernel
theorem dX10_goThrough_154 : decode cX10_goThrough 154 = .ok (.invokevirtual 132, 3) := by decide +kernel
theorem dX10_goThrough_157 : decode cX10_goThrough 157 = .ok (.return_, 1) := by decide +kernel
theorem dX10_keepFirst_0 : decode cX10_keepFirst 0 = .ok (.iconst 0, 1) := by decide +kernel
theorem dX10_keepFirst_1 : decode cX10_keepFirst 1 = .ok (.istore_n 2, 1) := by decide +kernel
theorem dX10_keepFirst_2 : decode cX10_keepFirst 2 = .ok (.iload_n 2, 1) := by decide +kernel
theorem dX10_keepFirst_3 : decode cX10_keepFirst 3 = .ok (.iload_n 1, 1) := by decide +kernel
theorem dX10_keepFirst_4 : decode cX10_keepFirst 4 = .ok (.if_icmp .ge 28, 3) := by decide +kernel
theorem dX10_keepFirst_7 : decode cX10_keepFirst 7 = .ok (.aload_n 0, 1) := by decide +kernel
theorem dX10_keepFirst_8 : decode cX10_keepFirst 8 = .ok (.getfield 357, 3) := by decide +kernel
theorem dX10_keepFirst_11 : decode cX10_keepFirst 11 = .ok (.ifCond .ne 21, 3) := by decide +kernel
theorem dX10_keepFirst_14 : decode cX10_keepFirst 14 = .ok (.aload_n 0, 1) := by decide +kernel
theorem dX10_keepFirst_15 : decode cX10_keepFirst 15 = .ok (.getfield 67, 3) := by decide +kernel
theorem dX10_keepFirst_18 : decode cX10_keepFirst 18 = .ok (.iload_n 2, 1) := by decide +kernel
theorem dX10_keepFirst_19 : decode cX10_keepFirst 19 = .ok (.aload_n 0, 1) := by decide +kernel
theorem dX10_keepFirst_20 : decode cX10_keepFirst 20 = .ok (.getfield 64, 3) := by decide +kernel
theorem dX10_keepFirst_23 : decode cX10_keepFirst 23 = .ok (.iload_n 2, 1) := by decide +kernel
theorem dX10_keepFirst_24 : decode cX10_keepFirst 24 = .ok (.iaload, 1) := by decide +kernel
theorem dX10_keepFirst_25 : decode cX10_keepFirst 25 = .ok (.iastore, 1) := by decide +kernel
theorem dX10_keepFirst_26 : decode cX10_keepFirst 26 = .ok (.iinc 2 1, 3) := by decide +kernel
theorem dX10_keepFirst_29 : decode cX10_keepFirst 29 = .ok (.goto (-27), 3) := by decide +kernel
theorem dX10_keepFirst_32 : decode cX10_keepFirst 32 = .ok (.aload_n 0, 1) := by decide +kernel
theorem dX10_keepFirst_33 : decode cX10_keepFirst 33 = .ok (.dup, 1) := by decide +kernel
theorem dX10_keepFirst_34 : decode cX10_keepFirst 34 = .ok (.getfield 357, 3) := by decide +kernel
theorem dX10_keepFirst_37 : decode cX10_keepFirst 37 = .ok (.iconst 1, 1) := by decide +kernel
theorem dX10_keepFirst_38 : decode cX10_keepFirst 38 = .ok (.iadd, 1) := by decide +kernel
theorem dX10_keepFirst_39 : decode cX10_keepFirst 39 = .ok (.putfield 357, 3) := by decide +kernel
theorem dX10_keepFirst_42 : decode cX10_keepFirst 42 = .ok (.return_, 1) := by decide +kernel
theorem dX10_goes_0 : decode cX10_goes 0 = .ok (.iload_n 1, 1) := by decide +kernel
theorem dX10_goes_1 : decode cX10_goes 1 = .ok (.bipush 9, 2) := by decide +kernel
theorem dX10_goes_3 : decode cX10_goes 3 = .ok (.irem, 1) := by decide +kernel
theorem dX10_goes_4 : decode cX10_goes 4 = .ok (.iconst 3, 1) := by decide +kernel
theorem dX10_goes_5 : decode cX10_goes 5 = .ok (.idiv, 1) := by decide +kernel
theorem dX10_goes_6 : decode cX10_goes 6 = .ok (.istore_n 2, 1) := by decide +kernel
theorem dX10_goes_7 : decode cX10_goes 7 = .ok (.iload_n 1, 1) := by decide +kernel
theorem dX10_goes_8 : decode cX10_goes 8 = .ok (.iconst 3, 1) := by decide +kernel
theorem dX10_goes_9 : decode cX10_goes 9 = .ok (.irem, 1) := by decide +kernel
theorem dX10_goes_10 : decode cX10_goes 10 = .ok (.istore_n 3, 1) := by decide +kernel
theorem dX10_goes_11 : decode cX10_goes 11 = .ok (.aload_n 0, 1) := by decide +kernel
theorem dX10_goes_12 : decode cX10_goes 12 = .ok (.iload_n 2, 1) := by decide +kernel
theorem dX10_goes_13 : decode cX10_goes 13 = .ok (.invokevirtual 102, 3) := by decide +kernel
theorem dX10_goes_16 : decode cX10_goes 16 = .ok (.ifCond .eq 36, 3) := by decide +kernel
theorem dX10_goes_19 : decode cX10_goes 19 = .ok (.aload_n 0, 1) := by decide +kernel
theorem dX10_goes_20 : decode cX10_goes 20 = .ok (.iload_n 3, 1) := by decide +kernel
theorem dX10_goes_21 : decode cX10_goes 21 = .ok (.invokevirtual 102, 3) := by decide +kernel
theorem dX10_goes_24 : decode cX10_goes 24 = .ok (.ifCond .eq 28, 3) := by decide +kernel
theorem dX10_goes_27 : decode cX10_goes 27 = .ok (.aload_n 0, 1) := by decide +kernel
theorem dX10_goes_28 : decode cX10_goes 28 = .ok (.iload_n 2, 1) := by decide +kernel
theorem dX10_goes_29 : decode cX10_goes 29 = .ok (.iload_n 3, 1) := by decide +kernel
theorem dX10_goes_30 : decode cX10_goes 30 = .ok (.aload_n 0, 1) := by decide +kernel
theorem dX10_goes_31 : decode cX10_goes 31 = .ok (.getfield 13, 3) := by decide +kernel
theorem dX10_goes_34 : decode cX10_goes 34 = .ok (.bipush 10, 2) := by decide +kernel
theorem dX10_goes_36 : decode cX10_goes 36 = .ok (.iload_n 1, 1) := by decide +kernel
theorem dX10_goes_37 : decode cX10_goes 37 = .ok (.bipush 9, 2) := by decide +kernel
theorem dX10_goes_39 : decode cX10_goes 39 = .ok (.idiv, 1) := by decide +kernel
theorem dX10_goes_40 : decode cX10_goes 40 = .ok (.iadd, 1) := by decide +kernel
theorem dX10_goes_41 : decode cX10_goes 41 = .ok (.iaload, 1) := by decide +kernel
theorem dX10_goes_42 : decode cX10_goes 42 = .ok (.invokevirtual 139, 3) := by decide +kernel
theorem dX10_goes_45 : decode cX10_goes 45 = .ok (.ifCond .ne 7, 3) := by decide +kernel
theorem dX10_goes_48 : decode cX10_goes 48 = .ok (.iconst 1, 1) := by decide +kernel
theorem dX10_goes_49 : decode cX10_goes 49 = .ok (.goto 4, 3) := by decide +kernel
theorem dX10_goes_52 : decode cX10_goes 52 = .ok (.iconst 0, 1) := by decide +kernel
theorem dX10_goes_53 : decode cX10_goes 53 = .ok (.ireturn, 1) := by decide +kernel
theorem dX10_ofMove_0 : decode cX10_ofMove 0 = .ok (.iload_n 2, 1) := by decide +kernel
theorem dX10_ofMove_1 : decode cX10_ofMove 1 = .ok (.ifCond .ne 15, 3) := by decide +kernel
theorem dX10_ofMove_4 : decode cX10_ofMove 4 = .ok (.aload_n 0, 1) := by decide +kernel
theorem dX10_ofMove_5 : decode cX10_ofMove 5 = .ok (.getfield 67, 3) := by decide +kernel
theorem dX10_ofMove_8 : decode cX10_ofMove 8 = .ok (.iload_n 1, 1) := by decide +kernel
theorem dX10_ofMove_9 : decode cX10_ofMove 9 = .ok (.iaload, 1) := by decide +kernel
theorem dX10_ofMove_10 : decode cX10_ofMove 10 = .ok (.bipush 9, 2) := by decide +kernel
theorem dX10_ofMove_12 : decode cX10_ofMove 12 = .ok (.idiv, 1) := by decide +kernel
theorem dX10_ofMove_13 : decode cX10_ofMove 13 = .ok (.goto 30, 3) := by decide +kernel
theorem dX10_ofMove_16 : decode cX10_ofMove 16 = .ok (.iload_n 2, 1) := by decide +kernel
theorem dX10_ofMove_17 : decode cX10_ofMove 17 = .ok (.iconst 1, 1) := by decide +kernel
theorem dX10_ofMove_18 : decode cX10_ofMove 18 = .ok (.if_icmp .ne 17, 3) := by decide +kernel
theorem dX10_ofMove_21 : decode cX10_ofMove 21 = .ok (.aload_n 0, 1) := by decide +kernel
theorem dX10_ofMove_22 : decode cX10_ofMove 22 = .ok (.getfield 67, 3) := by decide +kernel
theorem dX10_ofMove_25 : decode cX10_ofMove 25 = .ok (.iload_n 1, 1) := by decide +kernel
theorem dX10_ofMove_26 : decode cX10_ofMove 26 = .ok (.iaload, 1) := by decide +kernel
theorem dX10_ofMove_27 : decode cX10_ofMove 27 = .ok (.bipush 9, 2) := by decide +kernel
theorem dX10_ofMove_29 : decode cX10_ofMove 29 = .ok (.irem, 1) := by decide +kernel
theorem dX10_ofMove_30 : decode cX10_ofMove 30 = .ok (.iconst 3, 1) := by decide +kernel
theorem dX10_ofMove_31 : decode cX10_ofMove 31 = .ok (.idiv, 1) := by decide +kernel
theorem dX10_ofMove_32 : decode cX10_ofMove 32 = .ok (.goto 11, 3) := by decide +kernel
theorem dX10_ofMove_35 : decode cX10_ofMove 35 = .ok (.aload_n 0, 1) := by decide +kernel
theorem dX10_ofMove_36 : decode cX10_ofMove 36 = .ok (.getfield 67, 3) := by decide +kernel
theorem dX10_ofMove_39 : decode cX10_ofMove 39 = .ok (.iload_n 1, 1) := by decide +kernel
theorem dX10_ofMove_40 : decode cX10_ofMove 40 = .ok (.iaload, 1) := by decide +kernel
theorem dX10_ofMove_41 : decode cX10_ofMove 41 = .ok (.iconst 3, 1) := by decide +kernel
theorem dX10_ofMove_42 : decode cX10_ofMove 42 = .ok (.irem, 1) := by decide +kernel
theorem dX10_ofMove_43 : decode cX10_ofMove 43 = .ok (.ireturn, 1) := by decide +kernel
theorem dX10_reach_0 : decode cX10_reach 0 = .ok (.aload_n 0, 1) := by decide +kernel
theorem dX10_reach_1 : decode cX10_reach 1 = .ok (.iconst 0, 1) := by decide +kernel
theorem dX10_reach_2 : decode cX10_reach 2 = .ok (.putfield 77, 3) := by decide +kernel
theorem dX10_reach_5 : decode cX10_reach 5 = .ok (.aload_n 0, 1) := by decide +kernel
theorem dX10_reach_6 : decode cX10_reach 6 = .ok (.iload_n 1, 1) := by decide +kernel
theorem dX10_reach_7 : decode cX10_reach 7 = .ok (.invokevirtual 102, 3) := by decide +kernel
theorem dX10_reach_10 : decode cX10_reach 10 = .ok (.ifCond .eq 48, 3) := by decide +kernel
theorem dX10_reach_13 : decode cX10_reach 13 = .ok (.iload_n 2, 1) := by decide +kernel
theorem dX10_reach_14 : decode cX10_reach 14 = .ok (.invokestatic 105, 3) := by decide +kernel
theorem dX10_reach_17 : decode cX10_reach 17 = .ok (.ifCond .eq 41, 3) := by decide +kernel
theorem dX10_reach_20 : decode cX10_reach 20 = .ok (.iload_n 3, 1) := by decide +kernel
theorem dX10_reach_21 : decode cX10_reach 21 = .ok (.i2l, 1) := by decide +kernel
theorem dX10_reach_22 : decode cX10_reach 22 = .ok (.lconst 0, 1) := by decide +kernel
theorem dX10_reach_23 : decode cX10_reach 23 = .ok (.ldc2_w 110, 3) := by decide +kernel
theorem dX10_reach_26 : decode cX10_reach 26 = .ok (.invokestatic 83, 3) := by decide +kernel
theorem dX10_reach_29 : decode cX10_reach 29 = .ok (.ifCond .eq 29, 3) := by decide +kernel
theorem dX10_reach_32 : decode cX10_reach 32 = .ok (.iload 4, 2) := by decide +kernel
theorem dX10_reach_34 : decode cX10_reach 34 = .ok (.i2l, 1) := by decide +kernel
theorem dX10_reach_35 : decode cX10_reach 35 = .ok (.lconst 0, 1) := by decide +kernel
theorem dX10_reach_36 : decode cX10_reach 36 = .ok (.ldc2_w 110, 3) := by decide +kernel
theorem dX10_reach_39 : decode cX10_reach 39 = .ok (.invokestatic 83, 3) := by decide +kernel
theorem dX10_reach_42 : decode cX10_reach 42 = .ok (.ifCond .eq 16, 3) := by decide +kernel
theorem dX10_reach_45 : decode cX10_reach 45 = .ok (.iload 6, 2) := by decide +kernel
theorem dX10_reach_47 : decode cX10_reach 47 = .ok (.i2l, 1) := by decide +kernel
theorem dX10_reach_48 : decode cX10_reach 48 = .ok (.lconst 0, 1) := by decide +kernel
theorem dX10_reach_49 : decode cX10_reach 49 = .ok (.ldc2_w 369, 3) := by decide +kernel
theorem dX10_reach_52 : decode cX10_reach 52 = .ok (.invokestatic 83, 3) := by decide +kernel
theorem dX10_reach_55 : decode cX10_reach 55 = .ok (.ifCond .ne 5, 3) := by decide +kernel
theorem dX10_reach_58 : decode cX10_reach 58 = .ok (.iconst (-1), 1) := by decide +kernel
theorem dX10_reach_59 : decode cX10_reach 59 = .ok (.ireturn, 1) := by decide +kernel
theorem dX10_reach_60 : decode cX10_reach 60 = .ok (.aload_n 0, 1) := by decide +kernel
theorem dX10_reach_61 : decode cX10_reach 61 = .ok (.iload_n 1, 1) := by decide +kernel
theorem dX10_reach_62 : decode cX10_reach 62 = .ok (.putfield 345, 3) := by decide +kernel
theorem dX10_reach_65 : decode cX10_reach 65 = .ok (.aload_n 0, 1) := by decide +kernel
theorem dX10_reach_66 : decode cX10_reach 66 = .ok (.iload_n 2, 1) := by decide +kernel
theorem dX10_reach_67 : decode cX10_reach 67 = .ok (.putfield 348, 3) := by decide +kernel
theorem dX10_reach_70 : decode cX10_reach 70 = .ok (.aload_n 0, 1) := by decide +kernel
theorem dX10_reach_71 : decode cX10_reach 71 = .ok (.iload_n 3, 1) := by decide +kernel
theorem dX10_reach_72 : decode cX10_reach 72 = .ok (.putfield 351, 3) := by decide +kernel
theorem dX10_reach_75 : decode cX10_reach 75 = .ok (.aload_n 0, 1) := by decide +kernel
theorem dX10_reach_76 : decode cX10_reach 76 = .ok (.iload 4, 2) := by decide +kernel
theorem dX10_reach_78 : decode cX10_reach 78 = .ok (.putfield 354, 3) := by decide +kernel
theorem dX10_reach_81 : decode cX10_reach 81 = .ok (.iconst 0, 1) := by decide +kernel
theorem dX10_reach_82 : decode cX10_reach 82 = .ok (.istore 7, 2) := by decide +kernel
theorem dX10_reach_84 : decode cX10_reach 84 = .ok (.aload_n 0, 1) := by decide +kernel
theorem dX10_reach_85 : decode cX10_reach 85 = .ok (.iconst 0, 1) := by decide +kernel
theorem dX10_reach_86 : decode cX10_reach 86 = .ok (.invokevirtual 371, 3) := by decide +kernel
theorem dX10_reach_89 : decode cX10_reach 89 = .ok (.aload_n 0, 1) := by decide +kernel
theorem dX10_reach_90 : decode cX10_reach 90 = .ok (.getfield 357, 3) := by decide +kernel
theorem dX10_reach_93 : decode cX10_reach 93 = .ok (.ifCond .ne 21, 3) := by decide +kernel
theorem dX10_reach_96 : decode cX10_reach 96 = .ok (.iload 7, 2) := by decide +kernel
theorem dX10_reach_98 : decode cX10_reach 98 = .ok (.iconst 3, 1) := by decide +kernel
theorem dX10_reach_99 : decode cX10_reach 99 = .ok (.if_icmp .ge 15, 3) := by decide +kernel
theorem dX10_reach_102 : decode cX10_reach 102 = .ok (.iinc 7 1, 3) := by decide +kernel
theorem dX10_reach_105 : decode cX10_reach 105 = .ok (.aload_n 0, 1) := by decide +kernel
theorem dX10_reach_106 : decode cX10_reach 106 = .ok (.iload 7, 2) := by decide +kernel
theorem dX10_reach_108 : decode cX10_reach 108 = .ok (.invokevirtual 371, 3) := by decide +kernel
theorem dX10_reach_111 : decode cX10_reach 111 = .ok (.goto (-22), 3) := by decide +kernel
theorem dX10_reach_114 : decode cX10_reach 114 = .ok (.aload_n 0, 1) := by decide +kernel
theorem dX10_reach_115 : decode cX10_reach 115 = .ok (.getfield 357, 3) := by decide +kernel
theorem dX10_reach_118 : decode cX10_reach 118 = .ok (.ifCond .ne 7, 3) := by decide +kernel
theorem dX10_reach_121 : decode cX10_reach 121 = .ok (.iconst (-1), 1) := by decide +kernel
theorem dX10_reach_122 : decode cX10_reach 122 = .ok (.goto 41, 3) := by decide +kernel
theorem dX10_reach_125 : decode cX10_reach 125 = .ok (.iload 5, 2) := by decide +kernel
theorem dX10_reach_127 : decode cX10_reach 127 = .ok (.iconst (-1), 1) := by decide +kernel
theorem dX10_reach_128 : decode cX10_reach 128 = .ok (.if_icmp .ne 8, 3) := by decide +kernel
theorem dX10_reach_131 : decode cX10_reach 131 = .ok (.iload 7, 2) := by decide +kernel
theorem dX10_reach_133 : decode cX10_reach 133 = .ok (.goto 30, 3) := by decide +kernel
theorem dX10_reach_136 : decode cX10_reach 136 = .ok (.iload 5, 2) := by decide +kernel
theorem dX10_reach_138 : decode cX10_reach 138 = .ok (.i2l, 1) := by decide +kernel
theorem dX10_reach_139 : decode cX10_reach 139 = .ok (.lconst 0, 1) := by decide +kernel
theorem dX10_reach_140 : decode cX10_reach 140 = .ok (.iload 7, 2) := by decide +kernel
theorem dX10_reach_142 : decode cX10_reach 142 = .ok (.i2l, 1) := by decide +kernel
theorem dX10_reach_143 : decode cX10_reach 143 = .ok (.lconst 1, 1) := by decide +kernel
theorem dX10_reach_144 : decode cX10_reach 144 = .ok (.lsub, 1) := by decide +kernel
theorem dX10_reach_145 : decode cX10_reach 145 = .ok (.invokestatic 83, 3) := by decide +kernel
theorem dX10_reach_148 : decode cX10_reach 148 = .ok (.ifCond .eq 14, 3) := by decide +kernel
theorem dX10_reach_151 : decode cX10_reach 151 = .ok (.aload_n 0, 1) := by decide +kernel
theorem dX10_reach_152 : decode cX10_reach 152 = .ok (.iload 5, 2) := by decide +kernel
theorem dX10_reach_154 : decode cX10_reach 154 = .ok (.iload 6, 2) := by decide +kernel
theorem dX10_reach_156 : decode cX10_reach 156 = .ok (.invokevirtual 374, 3) := by decide +kernel
theorem dX10_reach_159 : decode cX10_reach 159 = .ok (.goto 4, 3) := by decide +kernel
theorem dX10_reach_162 : decode cX10_reach 162 = .ok (.iconst (-1), 1) := by decide +kernel
theorem dX10_reach_163 : decode cX10_reach 163 = .ok (.ireturn, 1) := by decide +kernel
theorem dX10_fits_0 : decode cX10_fits 0 = .ok (.aload_n 0, 1) := by decide +kernel
theorem dX10_fits_1 : decode cX10_fits 1 = .ok (.iconst 0, 1) := by decide +kernel
theorem dX10_fits_2 : decode cX10_fits 2 = .ok (.putfield 77, 3) := by decide +kernel
theorem dX10_fits_5 : decode cX10_fits 5 = .ok (.iload_n 1, 1) := by decide +kernel
theorem dX10_fits_6 : decode cX10_fits 6 = .ok (.i2l, 1) := by decide +kernel
theorem dX10_fits_7 : decode cX10_fits 7 = .ok (.lconst 0, 1) := by decide +kernel
theorem dX10_fits_8 : decode cX10_fits 8 = .ok (.ldc2_w 91, 3) := by decide +kernel
theorem dX10_fits_11 : decode cX10_fits 11 = .ok (.invokestatic 83, 3) := by decide +kernel
theorem dX10_fits_14 : decode cX10_fits 14 = .ok (.ifCond .eq 15, 3) := by decide +kernel
theorem dX10_fits_17 : decode cX10_fits 17 = .ok (.iload_n 3, 1) := by decide +kernel
theorem dX10_fits_18 : decode cX10_fits 18 = .ok (.i2l, 1) := by decide +kernel
theorem dX10_fits_19 : decode cX10_fits 19 = .ok (.lconst 0, 1) := by decide +kernel
theorem dX10_fits_20 : decode cX10_fits 20 = .ok (.ldc2_w 369, 3) := by decide +kernel
theorem dX10_fits_23 : decode cX10_fits 23 = .ok (.invokestatic 83, 3) := by decide +kernel
theorem dX10_fits_26 : decode cX10_fits 26 = .ok (.ifCond .ne 5, 3) := by decide +kernel
theorem dX10_fits_29 : decode cX10_fits 29 = .ok (.iconst (-1), 1) := by decide +kernel
theorem dX10_fits_30 : decode cX10_fits 30 = .ok (.ireturn, 1) := by decide +kernel
theorem dX10_fits_31 : decode cX10_fits 31 = .ok (.aload_n 0, 1) := by decide +kernel
theorem dX10_fits_32 : decode cX10_fits 32 = .ok (.iconst (-1), 1) := by decide +kernel
theorem dX10_fits_33 : decode cX10_fits 33 = .ok (.putfield 345, 3) := by decide +kernel
theorem dX10_fits_36 : decode cX10_fits 36 = .ok (.aload_n 0, 1) := by decide +kernel
theorem dX10_fits_37 : decode cX10_fits 37 = .ok (.iload_n 1, 1) := by decide +kernel
theorem dX10_fits_38 : decode cX10_fits 38 = .ok (.invokevirtual 371, 3) := by decide +kernel
theorem dX10_fits_41 : decode cX10_fits 41 = .ok (.iload_n 2, 1) := by decide +kernel
theorem dX10_fits_42 : decode cX10_fits 42 = .ok (.iconst (-1), 1) := by decide +kernel
theorem dX10_fits_43 : decode cX10_fits 43 = .ok (.if_icmp .ne 10, 3) := by decide +kernel
theorem dX10_fits_46 : decode cX10_fits 46 = .ok (.aload_n 0, 1) := by decide +kernel
theorem dX10_fits_47 : decode cX10_fits 47 = .ok (.getfield 357, 3) := by decide +kernel
theorem dX10_fits_50 : decode cX10_fits 50 = .ok (.goto 33, 3) := by decide +kernel
theorem dX10_fits_53 : decode cX10_fits 53 = .ok (.aload_n 0, 1) := by decide +kernel
theorem dX10_fits_54 : decode cX10_fits 54 = .ok (.getfield 357, 3) := by decide +kernel
theorem dX10_fits_57 : decode cX10_fits 57 = .ok (.ifCond .le 25, 3) := by decide +kernel
theorem dX10_fits_60 : decode cX10_fits 60 = .ok (.iload_n 2, 1) := by decide +kernel
theorem dX10_fits_61 : decode cX10_fits 61 = .ok (.i2l, 1) := by decide +kernel
theorem dX10_fits_62 : decode cX10_fits 62 = .ok (.lconst 0, 1) := by decide +kernel
theorem dX10_fits_63 : decode cX10_fits 63 = .ok (.iload_n 1, 1) := by decide +kernel
theorem dX10_fits_64 : decode cX10_fits 64 = .ok (.i2l, 1) := by decide +kernel
theorem dX10_fits_65 : decode cX10_fits 65 = .ok (.lconst 1, 1) := by decide +kernel
theorem dX10_fits_66 : decode cX10_fits 66 = .ok (.lsub, 1) := by decide +kernel
theorem dX10_fits_67 : decode cX10_fits 67 = .ok (.invokestatic 83, 3) := by decide +kernel
theorem dX10_fits_70 : decode cX10_fits 70 = .ok (.ifCond .eq 12, 3) := by decide +kernel
theorem dX10_fits_73 : decode cX10_fits 73 = .ok (.aload_n 0, 1) := by decide +kernel
theorem dX10_fits_74 : decode cX10_fits 74 = .ok (.iload_n 2, 1) := by decide +kernel
theorem dX10_fits_75 : decode cX10_fits 75 = .ok (.iload_n 3, 1) := by decide +kernel
theorem dX10_fits_76 : decode cX10_fits 76 = .ok (.invokevirtual 374, 3) := by decide +kernel
theorem dX10_fits_79 : decode cX10_fits 79 = .ok (.goto 4, 3) := by decide +kernel
theorem dX10_fits_82 : decode cX10_fits 82 = .ok (.iconst (-1), 1) := by decide +kernel
theorem dX10_fits_83 : decode cX10_fits 83 = .ok (.ireturn, 1) := by decide +kernel
theorem dX10_isCask_0 : decode cX10_isCask 0 = .ok (.iload_n 0, 1) := by decide +kernel
theorem dX10_isCask_1 : decode cX10_isCask 1 = .ok (.invokestatic 95, 3) := by decide +kernel
theorem dX10_isCask_4 : decode cX10_isCask 4 = .ok (.ifCond .eq 18, 3) := by decide +kernel
theorem dX10_isCask_7 : decode cX10_isCask 7 = .ok (.iload_n 1, 1) := by decide +kernel
theorem dX10_isCask_8 : decode cX10_isCask 8 = .ok (.i2l, 1) := by decide +kernel
theorem dX10_isCask_9 : decode cX10_isCask 9 = .ok (.lconst 0, 1) := by decide +kernel
theorem dX10_isCask_10 : decode cX10_isCask 10 = .ok (.iload_n 0, 1) := by decide +kernel
theorem dX10_isCask_11 : decode cX10_isCask 11 = .ok (.i2l, 1) := by decide +kernel
theorem dX10_isCask_12 : decode cX10_isCask 12 = .ok (.invokestatic 83, 3) := by decide +kernel
theorem dX10_isCask_15 : decode cX10_isCask 15 = .ok (.ifCond .eq 7, 3) := by decide +kernel
theorem dX10_isCask_18 : decode cX10_isCask 18 = .ok (.iconst 1, 1) := by decide +kernel
theorem dX10_isCask_19 : decode cX10_isCask 19 = .ok (.goto 4, 3) := by decide +kernel
theorem dX10_isCask_22 : decode cX10_isCask 22 = .ok (.iconst 0, 1) := by decide +kernel
theorem dX10_isCask_23 : decode cX10_isCask 23 = .ok (.ireturn, 1) := by decide +kernel
theorem dX10_cask_0 : decode cX10_cask 0 = .ok (.aload_n 0, 1) := by decide +kernel
theorem dX10_cask_1 : decode cX10_cask 1 = .ok (.iconst 0, 1) := by decide +kernel
theorem dX10_cask_2 : decode cX10_cask 2 = .ok (.putfield 77, 3) := by decide +kernel
theorem dX10_cask_5 : decode cX10_cask 5 = .ok (.iload_n 1, 1) := by decide +kernel
theorem dX10_cask_6 : decode cX10_cask 6 = .ok (.iload_n 2, 1) := by decide +kernel
theorem dX10_cask_7 : decode cX10_cask 7 = .ok (.invokestatic 377, 3) := by decide +kernel
theorem dX10_cask_10 : decode cX10_cask 10 = .ok (.ifCond .eq 48, 3) := by decide +kernel
theorem dX10_cask_13 : decode cX10_cask 13 = .ok (.iload_n 3, 1) := by decide +kernel
theorem dX10_cask_14 : decode cX10_cask 14 = .ok (.i2l, 1) := by decide +kernel
theorem dX10_cask_15 : decode cX10_cask 15 = .ok (.lconst 0, 1) := by decide +kernel
theorem dX10_cask_16 : decode cX10_cask 16 = .ok (.ldc2_w 335, 3) := by decide +kernel
theorem dX10_cask_19 : decode cX10_cask 19 = .ok (.invokestatic 83, 3) := by decide +kernel
theorem dX10_cask_22 : decode cX10_cask 22 = .ok (.ifCond .eq 36, 3) := by decide +kernel
theorem dX10_cask_25 : decode cX10_cask 25 = .ok (.iload 4, 2) := by decide +kernel
theorem dX10_cask_27 : decode cX10_cask 27 = .ok (.i2l, 1) := by decide +kernel
theorem dX10_cask_28 : decode cX10_cask 28 = .ok (.lconst 0, 1) := by decide +kernel
theorem dX10_cask_29 : decode cX10_cask 29 = .ok (.lconst 1, 1) := by decide +kernel
theorem dX10_cask_30 : decode cX10_cask 30 = .ok (.invokestatic 83, 3) := by decide +kernel
theorem dX10_cask_33 : decode cX10_cask 33 = .ok (.ifCond .eq 25, 3) := by decide +kernel
theorem dX10_cask_36 : decode cX10_cask 36 = .ok (.iload_n 1, 1) := by decide +kernel
theorem dX10_cask_37 : decode cX10_cask 37 = .ok (.iload_n 2, 1) := by decide +kernel
theorem dX10_cask_38 : decode cX10_cask 38 = .ok (.isub, 1) := by decide +kernel
theorem dX10_cask_39 : decode cX10_cask 39 = .ok (.i2l, 1) := by decide +kernel
theorem dX10_cask_40 : decode cX10_cask 40 = .ok (.iload_n 3, 1) := by decide +kernel
theorem dX10_cask_41 : decode cX10_cask 41 = .ok (.invokestatic 337, 3) := by decide +kernel
theorem dX10_cask_44 : decode cX10_cask 44 = .ok (.iload_n 1, 1) := by decide +kernel
theorem dX10_cask_45 : decode cX10_cask 45 = .ok (.i2l, 1) := by decide +kernel
theorem dX10_cask_46 : decode cX10_cask 46 = .ok (.iload_n 3, 1) := by decide +kernel
theorem dX10_cask_47 : decode cX10_cask 47 = .ok (.invokestatic 337, 3) := by decide +kernel
theorem dX10_cask_50 : decode cX10_cask 50 = .ok (.iload 4, 2) := by decide +kernel
theorem dX10_cask_52 : decode cX10_cask 52 = .ok (.invokestatic 341, 3) := by decide +kernel
theorem dX10_cask_55 : decode cX10_cask 55 = .ok (.goto 6, 3) := by decide +kernel
theorem dX10_cask_58 : decode cX10_cask 58 = .ok (.ldc2_w 108, 3) := by decide +kernel
theorem dX10_cask_61 : decode cX10_cask 61 = .ok (.lreturn, 1) := by decide +kernel
theorem dX10_guests_0 : decode cX10_guests 0 = .ok (.aload_n 0, 1) := by decide +kernel
theorem dX10_guests_1 : decode cX10_guests 1 = .ok (.iconst 0, 1) := by decide +kernel
theorem dX10_guests_2 : decode cX10_guests 2 = .ok (.putfield 77, 3) := by decide +kernel
theorem dX10_guests_5 : decode cX10_guests 5 = .ok (.iload_n 1, 1) := by decide +kernel
theorem dX10_guests_6 : decode cX10_guests 6 = .ok (.iload_n 2, 1) := by decide +kernel
theorem dX10_guests_7 : decode cX10_guests 7 = .ok (.invokestatic 377, 3) := by decide +kernel
theorem dX10_guests_10 : decode cX10_guests 10 = .ok (.ifCond .eq 15, 3) := by decide +kernel
theorem dX10_guests_13 : decode cX10_guests 13 = .ok (.iload_n 3, 1) := by decide +kernel
theorem dX10_guests_14 : decode cX10_guests 14 = .ok (.i2l, 1) := by decide +kernel
theorem dX10_guests_15 : decode cX10_guests 15 = .ok (.lconst 0, 1) := by decide +kernel
theorem dX10_guests_16 : decode cX10_guests 16 = .ok (.ldc2_w 110, 3) := by decide +kernel
theorem dX10_guests_19 : decode cX10_guests 19 = .ok (.invokestatic 83, 3) := by decide +kernel
theorem dX10_guests_22 : decode cX10_guests 22 = .ok (.ifCond .ne 5, 3) := by decide +kernel
theorem dX10_guests_25 : decode cX10_guests 25 = .ok (.iconst (-1), 1) := by decide +kernel
theorem dX10_guests_26 : decode cX10_guests 26 = .ok (.ireturn, 1) := by decide +kernel
theorem dX10_guests_27 : decode cX10_guests 27 = .ok (.iconst 0, 1) := by decide +kernel
theorem dX10_guests_28 : decode cX10_guests 28 = .ok (.istore 4, 2) := by decide +kernel
theorem dX10_guests_30 : decode cX10_guests 30 = .ok (.iload 4, 2) := by decide +kernel
theorem dX10_guests_32 : decode cX10_guests 32 = .ok (.bipush 7, 2) := by decide +kernel
theorem dX10_guests_34 : decode cX10_guests 34 = .ok (.if_icmp .ge 39, 3) := by decide +kernel
theorem dX10_guests_37 : decode cX10_guests 37 = .ok (.ldc2_w 110, 3) := by decide +kernel
theorem dX10_guests_40 : decode cX10_guests 40 = .ok (.iload_n 1, 1) := by decide +kernel
theorem dX10_guests_41 : decode cX10_guests 41 = .ok (.iload_n 2, 1) := by decide +kernel
theorem dX10_guests_42 : decode cX10_guests 42 = .ok (.isub, 1) := by decide +kernel
theorem dX10_guests_43 : decode cX10_guests 43 = .ok (.i2l, 1) := by decide +kernel
theorem dX10_guests_44 : decode cX10_guests 44 = .ok (.iload 4, 2) := by decide +kernel
theorem dX10_guests_46 : decode cX10_guests 46 = .ok (.invokestatic 337, 3) := by decide +kernel
theorem dX10_guests_49 : decode cX10_guests 49 = .ok (.lmul, 1) := by decide +kernel
theorem dX10_guests_50 : decode cX10_guests 50 = .ok (.iload_n 3, 1) := by decide +kernel
theorem dX10_guests_51 : decode cX10_guests 51 = .ok (.i2l, 1) := by decide +kernel
theorem dX10_guests_52 : decode cX10_guests 52 = .ok (.iload_n 1, 1) := by decide +kernel
theorem dX10_guests_53 : decode cX10_guests 53 = .ok (.i2l, 1) := by decide +kernel
theorem dX10_guests_54 : decode cX10_guests 54 = .ok (.iload 4, 2) := by decide +kernel
theorem dX10_guests_56 : decode cX10_guests 56 = .ok (.invokestatic 337, 3) := by decide +kernel
theorem dX10_guests_59 : decode cX10_guests 59 = .ok (.lmul, 1) := by decide +kernel
theorem dX10_guests_60 : decode cX10_guests 60 = .ok (.lcmp, 1) := by decide +kernel
theorem dX10_guests_61 : decode cX10_guests 61 = .ok (.ifCond .ge 6, 3) := by decide +kernel
theorem dX10_guests_64 : decode cX10_guests 64 = .ok (.iload 4, 2) := by decide +kernel
theorem dX10_guests_66 : decode cX10_guests 66 = .ok (.ireturn, 1) := by decide +kernel
theorem dX10_guests_67 : decode cX10_guests 67 = .ok (.iinc 4 1, 3) := by decide +kernel
theorem dX10_guests_70 : decode cX10_guests 70 = .ok (.goto (-40), 3) := by decide +kernel
theorem dX10_guests_73 : decode cX10_guests 73 = .ok (.iconst (-1), 1) := by decide +kernel
theorem dX10_guests_74 : decode cX10_guests 74 = .ok (.ireturn, 1) := by decide +kernel
theorem dX10_rinse_0 : decode cX10_rinse 0 = .ok (.aload_n 0, 1) := by decide +kernel
theorem dX10_rinse_1 : decode cX10_rinse 1 = .ok (.iconst 0, 1) := by decide +kernel
theorem dX10_rinse_2 : decode cX10_rinse 2 = .ok (.putfield 77, 3) := by decide +kernel
theorem dX10_rinse_5 : decode cX10_rinse 5 = .ok (.iload_n 1, 1) := by decide +kernel
theorem dX10_rinse_6 : decode cX10_rinse 6 = .ok (.i2l, 1) := by decide +kernel
theorem dX10_rinse_7 : decode cX10_rinse 7 = .ok (.lconst 1, 1) := by decide +kernel
theorem dX10_rinse_8 : decode cX10_rinse 8 = .ok (.ldc2_w 380, 3) := by decide +kernel
theorem dX10_rinse_11 : decode cX10_rinse 11 = .ok (.invokestatic 83, 3) := by decide +kernel
theorem dX10_rinse_14 : decode cX10_rinse 14 = .ok (.ifCond .eq 41, 3) := by decide +kernel
theorem dX10_rinse_17 : decode cX10_rinse 17 = .ok (.iload_n 2, 1) := by decide +kernel
theorem dX10_rinse_18 : decode cX10_rinse 18 = .ok (.i2l, 1) := by decide +kernel
theorem dX10_rinse_19 : decode cX10_rinse 19 = .ok (.lconst 0, 1) := by decide +kernel
theorem dX10_rinse_20 : decode cX10_rinse 20 = .ok (.ldc2_w 93, 3) := by decide +kernel
theorem dX10_rinse_23 : decode cX10_rinse 23 = .ok (.invokestatic 83, 3) := by decide +kernel
theorem dX10_rinse_26 : decode cX10_rinse 26 = .ok (.ifCond .eq 29, 3) := by decide +kernel
theorem dX10_rinse_29 : decode cX10_rinse 29 = .ok (.iload_n 3, 1) := by decide +kernel
theorem dX10_rinse_30 : decode cX10_rinse 30 = .ok (.i2l, 1) := by decide +kernel
theorem dX10_rinse_31 : decode cX10_rinse 31 = .ok (.lconst 1, 1) := by decide +kernel
theorem dX10_rinse_32 : decode cX10_rinse 32 = .ok (.ldc2_w 335, 3) := by decide +kernel
theorem dX10_rinse_35 : decode cX10_rinse 35 = .ok (.invokestatic 83, 3) := by decide +kernel
theorem dX10_rinse_38 : decode cX10_rinse 38 = .ok (.ifCond .eq 17, 3) := by decide +kernel
theorem dX10_rinse_41 : decode cX10_rinse 41 = .ok (.iload 4, 2) := by decide +kernel
theorem dX10_rinse_43 : decode cX10_rinse 43 = .ok (.i2l, 1) := by decide +kernel
theorem dX10_rinse_44 : decode cX10_rinse 44 = .ok (.lconst 0, 1) := by decide +kernel
theorem dX10_rinse_45 : decode cX10_rinse 45 = .ok (.lconst 1, 1) := by decide +kernel
theorem dX10_rinse_46 : decode cX10_rinse 46 = .ok (.iload_n 3, 1) := by decide +kernel
theorem dX10_rinse_47 : decode cX10_rinse 47 = .ok (.i2l, 1) := by decide +kernel
theorem dX10_rinse_48 : decode cX10_rinse 48 = .ok (.ladd, 1) := by decide +kernel
theorem dX10_rinse_49 : decode cX10_rinse 49 = .ok (.invokestatic 83, 3) := by decide +kernel
theorem dX10_rinse_52 : decode cX10_rinse 52 = .ok (.ifCond .ne 7, 3) := by decide +kernel
theorem dX10_rinse_55 : decode cX10_rinse 55 = .ok (.ldc2_w 108, 3) := by decide +kernel
theorem dX10_rinse_58 : decode cX10_rinse 58 = .ok (.lreturn, 1) := by decide +kernel
theorem dX10_rinse_59 : decode cX10_rinse 59 = .ok (.iload_n 3, 1) := by decide +kernel
theorem dX10_rinse_60 : decode cX10_rinse 60 = .ok (.iload_n 2, 1) := by decide +kernel
theorem dX10_rinse_61 : decode cX10_rinse 61 = .ok (.iload_n 3, 1) := by decide +kernel
theorem dX10_rinse_62 : decode cX10_rinse 62 = .ok (.irem, 1) := by decide +kernel
theorem dX10_rinse_63 : decode cX10_rinse 63 = .ok (.isub, 1) := by decide +kernel
theorem dX10_rinse_64 : decode cX10_rinse 64 = .ok (.istore 5, 2) := by decide +kernel
theorem dX10_rinse_66 : decode cX10_rinse 66 = .ok (.iload 4, 2) := by decide +kernel
theorem dX10_rinse_68 : decode cX10_rinse 68 = .ok (.iconst 1, 1) := by decide +kernel
theorem dX10_rinse_69 : decode cX10_rinse 69 = .ok (.if_icmp .le 23, 3) := by decide +kernel
theorem dX10_rinse_72 : decode cX10_rinse 72 = .ok (.iload_n 2, 1) := by decide +kernel
theorem dX10_rinse_73 : decode cX10_rinse 73 = .ok (.iload_n 3, 1) := by decide +kernel
theorem dX10_rinse_74 : decode cX10_rinse 74 = .ok (.idiv, 1) := by decide +kernel
theorem dX10_rinse_75 : decode cX10_rinse 75 = .ok (.iload 4, 2) := by decide +kernel
theorem dX10_rinse_77 : decode cX10_rinse 77 = .ok (.iconst 2, 1) := by decide +kernel
theorem dX10_rinse_78 : decode cX10_rinse 78 = .ok (.isub, 1) := by decide +kernel
theorem dX10_rinse_79 : decode cX10_rinse 79 = .ok (.iload 5, 2) := by decide +kernel
theorem dX10_rinse_81 : decode cX10_rinse 81 = .ok (.if_icmp .ge 7, 3) := by decide +kernel
theorem dX10_rinse_84 : decode cX10_rinse 84 = .ok (.iconst 0, 1) := by decide +kernel
theorem dX10_rinse_85 : decode cX10_rinse 85 = .ok (.goto 4, 3) := by decide +kernel
theorem dX10_rinse_88 : decode cX10_rinse 88 = .ok (.iconst 1, 1) := by decide +kernel
theorem dX10_rinse_89 : decode cX10_rinse 89 = .ok (.iadd, 1) := by decide +kernel
theorem dX10_rinse_90 : decode cX10_rinse 90 = .ok (.i2l, 1) := by decide +kernel
theorem dX10_rinse_91 : decode cX10_rinse 91 = .ok (.lreturn, 1) := by decide +kernel
theorem dX10_rinse_92 : decode cX10_rinse 92 = .ok (.iload_n 1, 1) := by decide +kernel
theorem dX10_rinse_93 : decode cX10_rinse 93 = .ok (.iload_n 2, 1) := by decide +kernel
theorem dX10_rinse_94 : decode cX10_rinse 94 = .ok (.iload_n 3, 1) := by decide +kernel
theorem dX10_rinse_95 : decode cX10_rinse 95 = .ok (.idiv, 1) := by decide +kernel
theorem dX10_rinse_96 : decode cX10_rinse 96 = .ok (.iadd, 1) := by decide +kernel
theorem dX10_rinse_97 : decode cX10_rinse 97 = .ok (.i2l, 1) := by decide +kernel
theorem dX10_rinse_98 : decode cX10_rinse 98 = .ok (.iload 5, 2) := by decide +kernel
theorem dX10_rinse_100 : decode cX10_rinse 100 = .ok (.invokestatic 337, 3) := by decide +kernel
theorem dX10_rinse_103 : decode cX10_rinse 103 = .ok (.iload_n 1, 1) := by decide +kernel
theorem dX10_rinse_104 : decode cX10_rinse 104 = .ok (.iload_n 2, 1) := by decide +kernel
theorem dX10_rinse_105 : decode cX10_rinse 105 = .ok (.iload_n 3, 1) := by decide +kernel
theorem dX10_rinse_106 : decode cX10_rinse 106 = .ok (.idiv, 1) := by decide +kernel
theorem dX10_rinse_107 : decode cX10_rinse 107 = .ok (.iadd, 1) := by decide +kernel
theorem dX10_rinse_108 : decode cX10_rinse 108 = .ok (.iconst 1, 1) := by decide +kernel
theorem dX10_rinse_109 : decode cX10_rinse 109 = .ok (.iadd, 1) := by decide +kernel
theorem dX10_rinse_110 : decode cX10_rinse 110 = .ok (.i2l, 1) := by decide +kernel
theorem dX10_rinse_111 : decode cX10_rinse 111 = .ok (.iload_n 3, 1) := by decide +kernel
theorem dX10_rinse_112 : decode cX10_rinse 112 = .ok (.iload 5, 2) := by decide +kernel
theorem dX10_rinse_114 : decode cX10_rinse 114 = .ok (.isub, 1) := by decide +kernel
theorem dX10_rinse_115 : decode cX10_rinse 115 = .ok (.invokestatic 337, 3) := by decide +kernel
theorem dX10_rinse_118 : decode cX10_rinse 118 = .ok (.lmul, 1) := by decide +kernel
theorem dX10_rinse_119 : decode cX10_rinse 119 = .ok (.lstore 6, 2) := by decide +kernel
theorem dX10_rinse_121 : decode cX10_rinse 121 = .ok (.iload_n 1, 1) := by decide +kernel
theorem dX10_rinse_122 : decode cX10_rinse 122 = .ok (.i2l, 1) := by decide +kernel
theorem dX10_rinse_123 : decode cX10_rinse 123 = .ok (.iload_n 3, 1) := by decide +kernel
theorem dX10_rinse_124 : decode cX10_rinse 124 = .ok (.invokestatic 337, 3) := by decide +kernel
theorem dX10_rinse_127 : decode cX10_rinse 127 = .ok (.lload 6, 2) := by decide +kernel
theorem dX10_rinse_129 : decode cX10_rinse 129 = .ok (.iload 4, 2) := by decide +kernel
theorem dX10_rinse_131 : decode cX10_rinse 131 = .ok (.invokestatic 341, 3) := by decide +kernel
theorem dX10_rinse_134 : decode cX10_rinse 134 = .ok (.lreturn, 1) := by decide +kernel
theorem dX10_wine_0 : decode cX10_wine 0 = .ok (.aload_n 0, 1) := by decide +kernel
theorem dX10_wine_1 : decode cX10_wine 1 = .ok (.iconst 0, 1) := by decide +kernel
theorem dX10_wine_2 : decode cX10_wine 2 = .ok (.putfield 77, 3) := by decide +kernel
theorem dX10_wine_5 : decode cX10_wine 5 = .ok (.iload_n 1, 1) := by decide +kernel
theorem dX10_wine_6 : decode cX10_wine 6 = .ok (.i2l, 1) := by decide +kernel
theorem dX10_wine_7 : decode cX10_wine 7 = .ok (.lconst 0, 1) := by decide +kernel
theorem dX10_wine_8 : decode cX10_wine 8 = .ok (.ldc2_w 110, 3) := by decide +kernel
theorem dX10_wine_11 : decode cX10_wine 11 = .ok (.invokestatic 83, 3) := by decide +kernel
theorem dX10_wine_14 : decode cX10_wine 14 = .ok (.ifCond .eq 27, 3) := by decide +kernel
theorem dX10_wine_17 : decode cX10_wine 17 = .ok (.iload_n 2, 1) := by decide +kernel
theorem dX10_wine_18 : decode cX10_wine 18 = .ok (.i2l, 1) := by decide +kernel
theorem dX10_wine_19 : decode cX10_wine 19 = .ok (.lconst 0, 1) := by decide +kernel
theorem dX10_wine_20 : decode cX10_wine 20 = .ok (.ldc2_w 382, 3) := by decide +kernel
theorem dX10_wine_23 : decode cX10_wine 23 = .ok (.invokestatic 83, 3) := by decide +kernel
theorem dX10_wine_26 : decode cX10_wine 26 = .ok (.ifCond .eq 15, 3) := by decide +kernel
theorem dX10_wine_29 : decode cX10_wine 29 = .ok (.iload_n 3, 1) := by decide +kernel
theorem dX10_wine_30 : decode cX10_wine 30 = .ok (.i2l, 1) := by decide +kernel
theorem dX10_wine_31 : decode cX10_wine 31 = .ok (.lconst 0, 1) := by decide +kernel
theorem dX10_wine_32 : decode cX10_wine 32 = .ok (.ldc2_w 204, 3) := by decide +kernel
theorem dX10_wine_35 : decode cX10_wine 35 = .ok (.invokestatic 83, 3) := by decide +kernel
theorem dX10_wine_38 : decode cX10_wine 38 = .ok (.ifCond .ne 9, 3) := by decide +kernel
theorem dX10_wine_41 : decode cX10_wine 41 = .ok (.aload_n 0, 1) := by decide +kernel
theorem dX10_wine_42 : decode cX10_wine 42 = .ok (.iconst (-1), 1) := by decide +kernel
theorem dX10_wine_43 : decode cX10_wine 43 = .ok (.invokevirtual 87, 3) := by decide +kernel
theorem dX10_wine_46 : decode cX10_wine 46 = .ok (.ireturn, 1) := by decide +kernel
theorem dX10_wine_47 : decode cX10_wine 47 = .ok (.aload_n 0, 1) := by decide +kernel
theorem dX10_wine_48 : decode cX10_wine 48 = .ok (.getfield 13, 3) := by decide +kernel
theorem dX10_wine_51 : decode cX10_wine 51 = .ok (.iconst 3, 1) := by decide +kernel
theorem dX10_wine_52 : decode cX10_wine 52 = .ok (.iaload, 1) := by decide +kernel
theorem dX10_wine_53 : decode cX10_wine 53 = .ok (.istore 4, 2) := by decide +kernel
theorem dX10_wine_55 : decode cX10_wine 55 = .ok (.iload 4, 2) := by decide +kernel
theorem dX10_wine_57 : decode cX10_wine 57 = .ok (.bipush 6, 2) := by decide +kernel
theorem dX10_wine_59 : decode cX10_wine 59 = .ok (.if_icmp .ne 10, 3) := by decide +kernel
theorem dX10_wine_62 : decode cX10_wine 62 = .ok (.aload_n 0, 1) := by decide +kernel
theorem dX10_wine_63 : decode cX10_wine 63 = .ok (.bipush (-5), 2) := by decide +kernel
theorem dX10_wine_65 : decode cX10_wine 65 = .ok (.invokevirtual 87, 3) := by decide +kernel
theorem dX10_wine_68 : decode cX10_wine 68 = .ok (.ireturn, 1) := by decide +kernel
theorem dX10_wine_69 : decode cX10_wine 69 = .ok (.aload_n 0, 1) := by decide +kernel
theorem dX10_wine_70 : decode cX10_wine 70 = .ok (.getfield 13, 3) := by decide +kernel
theorem dX10_wine_73 : decode cX10_wine 73 = .ok (.bipush 31, 2) := by decide +kernel
theorem dX10_wine_75 : decode cX10_wine 75 = .ok (.iconst 3, 1) := by decide +kernel
theorem dX10_wine_76 : decode cX10_wine 76 = .ok (.iload 4, 2) := by decide +kernel
theorem dX10_wine_78 : decode cX10_wine 78 = .ok (.imul, 1) := by decide +kernel
theorem dX10_wine_79 : decode cX10_wine 79 = .ok (.iadd, 1) := by decide +kernel
theorem dX10_wine_80 : decode cX10_wine 80 = .ok (.iload_n 1, 1) := by decide +kernel
theorem dX10_wine_81 : decode cX10_wine 81 = .ok (.iastore, 1) := by decide +kernel
theorem dX10_wine_82 : decode cX10_wine 82 = .ok (.aload_n 0, 1) := by decide +kernel
theorem dX10_wine_83 : decode cX10_wine 83 = .ok (.getfield 13, 3) := by decide +kernel
theorem dX10_wine_86 : decode cX10_wine 86 = .ok (.bipush 31, 2) := by decide +kernel
theorem dX10_wine_88 : decode cX10_wine 88 = .ok (.iconst 3, 1) := by decide +kernel
theorem dX10_wine_89 : decode cX10_wine 89 = .ok (.iload 4, 2) := by decide +kernel
theorem dX10_wine_91 : decode cX10_wine 91 = .ok (.imul, 1) := by decide +kernel
theorem dX10_wine_92 : decode cX10_wine 92 = .ok (.iadd, 1) := by decide +kernel
theorem dX10_wine_93 : decode cX10_wine 93 = .ok (.iconst 1, 1) := by decide +kernel
theorem dX10_wine_94 : decode cX10_wine 94 = .ok (.iadd, 1) := by decide +kernel
theorem dX10_wine_95 : decode cX10_wine 95 = .ok (.iload_n 2, 1) := by decide +kernel
theorem dX10_wine_96 : decode cX10_wine 96 = .ok (.iastore, 1) := by decide +kernel
theorem dX10_wine_97 : decode cX10_wine 97 = .ok (.aload_n 0, 1) := by decide +kernel
theorem dX10_wine_98 : decode cX10_wine 98 = .ok (.getfield 13, 3) := by decide +kernel
theorem dX10_wine_101 : decode cX10_wine 101 = .ok (.bipush 31, 2) := by decide +kernel
theorem dX10_wine_103 : decode cX10_wine 103 = .ok (.iconst 3, 1) := by decide +kernel
theorem dX10_wine_104 : decode cX10_wine 104 = .ok (.iload 4, 2) := by decide +kernel
theorem dX10_wine_106 : decode cX10_wine 106 = .ok (.imul, 1) := by decide +kernel
theorem dX10_wine_107 : decode cX10_wine 107 = .ok (.iadd, 1) := by decide +kernel
theorem dX10_wine_108 : decode cX10_wine 108 = .ok (.iconst 2, 1) := by decide +kernel
theorem dX10_wine_109 : decode cX10_wine 109 = .ok (.iadd, 1) := by decide +kernel
theorem dX10_wine_110 : decode cX10_wine 110 = .ok (.iload_n 3, 1) := by decide +kernel
theorem dX10_wine_111 : decode cX10_wine 111 = .ok (.iastore, 1) := by decide +kernel
theorem dX10_wine_112 : decode cX10_wine 112 = .ok (.aload_n 0, 1) := by decide +kernel
theorem dX10_wine_113 : decode cX10_wine 113 = .ok (.getfield 13, 3) := by decide +kernel
theorem dX10_wine_116 : decode cX10_wine 116 = .ok (.iconst 3, 1) := by decide +kernel
theorem dX10_wine_117 : decode cX10_wine 117 = .ok (.dup2, 1) := by decide +kernel
theorem dX10_wine_118 : decode cX10_wine 118 = .ok (.iaload, 1) := by decide +kernel
theorem dX10_wine_119 : decode cX10_wine 119 = .ok (.iconst 1, 1) := by decide +kernel
theorem dX10_wine_120 : decode cX10_wine 120 = .ok (.iadd, 1) := by decide +kernel
theorem dX10_wine_121 : decode cX10_wine 121 = .ok (.iastore, 1) := by decide +kernel
theorem dX10_wine_122 : decode cX10_wine 122 = .ok (.aload_n 0, 1) := by decide +kernel
theorem dX10_wine_123 : decode cX10_wine 123 = .ok (.iload 4, 2) := by decide +kernel
theorem dX10_wine_125 : decode cX10_wine 125 = .ok (.invokevirtual 87, 3) := by decide +kernel
theorem dX10_wine_128 : decode cX10_wine 128 = .ok (.ireturn, 1) := by decide +kernel
theorem dX10_drink_0 : decode cX10_drink 0 = .ok (.aload_n 0, 1) := by decide +kernel
theorem dX10_drink_1 : decode cX10_drink 1 = .ok (.iconst 0, 1) := by decide +kernel
theorem dX10_drink_2 : decode cX10_drink 2 = .ok (.putfield 77, 3) := by decide +kernel
theorem dX10_drink_5 : decode cX10_drink 5 = .ok (.iload_n 1, 1) := by decide +kernel
theorem dX10_drink_6 : decode cX10_drink 6 = .ok (.i2l, 1) := by decide +kernel
theorem dX10_drink_7 : decode cX10_drink 7 = .ok (.lconst 0, 1) := by decide +kernel
theorem dX10_drink_8 : decode cX10_drink 8 = .ok (.aload_n 0, 1) := by decide +kernel
theorem dX10_drink_9 : decode cX10_drink 9 = .ok (.getfield 13, 3) := by decide +kernel
theorem dX10_drink_12 : decode cX10_drink 12 = .ok (.iconst 3, 1) := by decide +kernel
theorem dX10_drink_13 : decode cX10_drink 13 = .ok (.iaload, 1) := by decide +kernel
theorem dX10_drink_14 : decode cX10_drink 14 = .ok (.i2l, 1) := by decide +kernel
theorem dX10_drink_15 : decode cX10_drink 15 = .ok (.lconst 1, 1) := by decide +kernel
theorem dX10_drink_16 : decode cX10_drink 16 = .ok (.lsub, 1) := by decide +kernel
theorem dX10_drink_17 : decode cX10_drink 17 = .ok (.invokestatic 83, 3) := by decide +kernel
theorem dX10_drink_20 : decode cX10_drink 20 = .ok (.ifCond .ne 10, 3) := by decide +kernel
theorem dX10_drink_23 : decode cX10_drink 23 = .ok (.aload_n 0, 1) := by decide +kernel
theorem dX10_drink_24 : decode cX10_drink 24 = .ok (.bipush (-2), 2) := by decide +kernel
theorem dX10_drink_26 : decode cX10_drink 26 = .ok (.invokevirtual 87, 3) := by decide +kernel
theorem dX10_drink_29 : decode cX10_drink 29 = .ok (.ireturn, 1) := by decide +kernel
theorem dX10_drink_30 : decode cX10_drink 30 = .ok (.bipush 31, 2) := by decide +kernel
theorem dX10_drink_32 : decode cX10_drink 32 = .ok (.iconst 3, 1) := by decide +kernel
theorem dX10_drink_33 : decode cX10_drink 33 = .ok (.iload_n 1, 1) := by decide +kernel
theorem dX10_drink_34 : decode cX10_drink 34 = .ok (.imul, 1) := by decide +kernel
theorem dX10_drink_35 : decode cX10_drink 35 = .ok (.iadd, 1) := by decide +kernel
theorem dX10_drink_36 : decode cX10_drink 36 = .ok (.istore_n 2, 1) := by decide +kernel
theorem dX10_drink_37 : decode cX10_drink 37 = .ok (.iload_n 2, 1) := by decide +kernel
theorem dX10_drink_38 : decode cX10_drink 38 = .ok (.bipush 46, 2) := by decide +kernel
theorem dX10_drink_40 : decode cX10_drink 40 = .ok (.if_icmp .ge 23, 3) := by decide +kernel
theorem dX10_drink_43 : decode cX10_drink 43 = .ok (.aload_n 0, 1) := by decide +kernel
theorem dX10_drink_44 : decode cX10_drink 44 = .ok (.getfield 13, 3) := by decide +kernel
theorem dX10_drink_47 : decode cX10_drink 47 = .ok (.iload_n 2, 1) := by decide +kernel
theorem dX10_drink_48 : decode cX10_drink 48 = .ok (.aload_n 0, 1) := by decide +kernel
theorem dX10_drink_49 : decode cX10_drink 49 = .ok (.getfield 13, 3) := by decide +kernel
theorem dX10_drink_52 : decode cX10_drink 52 = .ok (.iload_n 2, 1) := by decide +kernel
theorem dX10_drink_53 : decode cX10_drink 53 = .ok (.iconst 3, 1) := by decide +kernel
theorem dX10_drink_54 : decode cX10_drink 54 = .ok (.iadd, 1) := by decide +kernel
theorem dX10_drink_55 : decode cX10_drink 55 = .ok (.iaload, 1) := by decide +kernel
theorem dX10_drink_56 : decode cX10_drink 56 = .ok (.iastore, 1) := by decide +kernel
theorem dX10_drink_57 : decode cX10_drink 57 = .ok (.iinc 2 1, 3) := by decide +kernel
theorem dX10_drink_60 : decode cX10_drink 60 = .ok (.goto (-23), 3) := by decide +kernel
theorem dX10_drink_63 : decode cX10_drink 63 = .ok (.aload_n 0, 1) := by decide +kernel
theorem dX10_drink_64 : decode cX10_drink 64 = .ok (.getfield 13, 3) := by decide +kernel
theorem dX10_drink_67 : decode cX10_drink 67 = .ok (.iconst 3, 1) := by decide +kernel
theorem dX10_drink_68 : decode cX10_drink 68 = .ok (.dup2, 1) := by decide +kernel
theorem dX10_drink_69 : decode cX10_drink 69 = .ok (.iaload, 1) := by decide +kernel
theorem dX10_drink_70 : decode cX10_drink 70 = .ok (.iconst 1, 1) := by decide +kernel
theorem dX10_drink_71 : decode cX10_drink 71 = .ok (.isub, 1) := by decide +kernel
theorem dX10_drink_72 : decode cX10_drink 72 = .ok (.iastore, 1) := by decide +kernel
theorem dX10_drink_73 : decode cX10_drink 73 = .ok (.aload_n 0, 1) := by decide +kernel
theorem dX10_drink_74 : decode cX10_drink 74 = .ok (.aload_n 0, 1) := by decide +kernel
theorem dX10_drink_75 : decode cX10_drink 75 = .ok (.getfield 13, 3) := by decide +kernel
theorem dX10_drink_78 : decode cX10_drink 78 = .ok (.iconst 3, 1) := by decide +kernel
theorem dX10_drink_79 : decode cX10_drink 79 = .ok (.iaload, 1) := by decide +kernel
theorem dX10_drink_80 : decode cX10_drink 80 = .ok (.invokevirtual 87, 3) := by decide +kernel
theorem dX10_drink_83 : decode cX10_drink 83 = .ok (.ireturn, 1) := by decide +kernel
theorem dX10_at_0 : decode cX10_at 0 = .ok (.ldc_w 384, 3) := by decide +kernel
theorem dX10_at_3 : decode cX10_at 3 = .ok (.iload_n 0, 1) := by decide +kernel
theorem dX10_at_4 : decode cX10_at 4 = .ok (.imul, 1) := by decide +kernel
theorem dX10_at_5 : decode cX10_at 5 = .ok (.sipush 2001, 3) := by decide +kernel
theorem dX10_at_8 : decode cX10_at 8 = .ok (.iload_n 1, 1) := by decide +kernel
theorem dX10_at_9 : decode cX10_at 9 = .ok (.imul, 1) := by decide +kernel
theorem dX10_at_10 : decode cX10_at 10 = .ok (.iadd, 1) := by decide +kernel
theorem dX10_at_11 : decode cX10_at 11 = .ok (.iload_n 2, 1) := by decide +kernel
theorem dX10_at_12 : decode cX10_at 12 = .ok (.iadd, 1) := by decide +kernel
theorem dX10_at_13 : decode cX10_at 13 = .ok (.ireturn, 1) := by decide +kernel
theorem dX10_findMixes_0 : decode cX10_findMixes 0 = .ok (.aload_n 0, 1) := by decide +kernel
theorem dX10_findMixes_1 : decode cX10_findMixes 1 = .ok (.getfield 13, 3) := by decide +kernel
theorem dX10_findMixes_4 : decode cX10_findMixes 4 = .ok (.iconst 3, 1) := by decide +kernel
theorem dX10_findMixes_5 : decode cX10_findMixes 5 = .ok (.iaload, 1) := by decide +kernel
theorem dX10_findMixes_6 : decode cX10_findMixes 6 = .ok (.istore_n 2, 1) := by decide +kernel
theorem dX10_findMixes_7 : decode cX10_findMixes 7 = .ok (.iconst 0, 1) := by decide +kernel
theorem dX10_findMixes_8 : decode cX10_findMixes 8 = .ok (.istore_n 3, 1) := by decide +kernel
theorem dX10_findMixes_9 : decode cX10_findMixes 9 = .ok (.iload_n 3, 1) := by decide +kernel
theorem dX10_findMixes_10 : decode cX10_findMixes 10 = .ok (.iload_n 1, 1) := by decide +kernel
theorem dX10_findMixes_11 : decode cX10_findMixes 11 = .ok (.if_icmp .gt 55, 3) := by decide +kernel
theorem dX10_findMixes_14 : decode cX10_findMixes 14 = .ok (.iconst 0, 1) := by decide +kernel
theorem dX10_findMixes_15 : decode cX10_findMixes 15 = .ok (.istore 4, 2) := by decide +kernel
theorem dX10_findMixes_17 : decode cX10_findMixes 17 = .ok (.iload 4, 2) := by decide +kernel
theorem dX10_findMixes_19 : decode cX10_findMixes 19 = .ok (.bipush 100, 2) := by decide +kernel
theorem dX10_findMixes_21 : decode cX10_findMixes 21 = .ok (.iload_n 1, 1) := by decide +kernel
theorem dX10_findMixes_22 : decode cX10_findMixes 22 = .ok (.imul, 1) := by decide +kernel
theorem dX10_findMixes_23 : decode cX10_findMixes 23 = .ok (.if_icmp .gt 37, 3) := by decide +kernel
theorem dX10_findMixes_26 : decode cX10_findMixes 26 = .ok (.aload_n 0, 1) := by decide +kernel
theorem dX10_findMixes_27 : decode cX10_findMixes 27 = .ok (.getfield 71, 3) := by decide +kernel
theorem dX10_findMixes_30 : decode cX10_findMixes 30 = .ok (.iload_n 2, 1) := by decide +kernel
theorem dX10_findMixes_31 : decode cX10_findMixes 31 = .ok (.iload_n 3, 1) := by decide +kernel
theorem dX10_findMixes_32 : decode cX10_findMixes 32 = .ok (.iload 4, 2) := by decide +kernel
theorem dX10_findMixes_34 : decode cX10_findMixes 34 = .ok (.invokestatic 385, 3) := by decide +kernel
theorem dX10_findMixes_37 : decode cX10_findMixes 37 = .ok (.iload_n 3, 1) := by decide +kernel
theorem dX10_findMixes_38 : decode cX10_findMixes 38 = .ok (.ifCond .ne 12, 3) := by decide +kernel
theorem dX10_findMixes_41 : decode cX10_findMixes 41 = .ok (.iload 4, 2) := by decide +kernel
theorem dX10_findMixes_43 : decode cX10_findMixes 43 = .ok (.ifCond .ne 7, 3) := by decide +kernel
theorem dX10_findMixes_46 : decode cX10_findMixes 46 = .ok (.iconst 0, 1) := by decide +kernel
theorem dX10_findMixes_47 : decode cX10_findMixes 47 = .ok (.goto 6, 3) := by decide +kernel
theorem dX10_findMixes_50 : decode cX10_findMixes 50 = .ok (.ldc_w 388, 3) := by decide +kernel
theorem dX10_findMixes_53 : decode cX10_findMixes 53 = .ok (.iastore, 1) := by decide +kernel
theorem dX10_findMixes_54 : decode cX10_findMixes 54 = .ok (.iinc 4 1, 3) := by decide +kernel
theorem dX10_findMixes_57 : decode cX10_findMixes 57 = .ok (.goto (-40), 3) := by decide +kernel
theorem dX10_findMixes_60 : decode cX10_findMixes 60 = .ok (.iinc 3 1, 3) := by decide +kernel
theorem dX10_findMixes_63 : decode cX10_findMixes 63 = .ok (.goto (-54), 3) := by decide +kernel
theorem dX10_findMixes_66 : decode cX10_findMixes 66 = .ok (.iload_n 2, 1) := by decide +kernel
theorem dX10_findMixes_67 : decode cX10_findMixes 67 = .ok (.iconst 1, 1) := by decide +kernel
theorem dX10_findMixes_68 : decode cX10_findMixes 68 = .ok (.isub, 1) := by decide +kernel
theorem dX10_findMixes_69 : decode cX10_findMixes 69 = .ok (.istore_n 3, 1) := by decide +kernel
theorem dX10_findMixes_70 : decode cX10_findMixes 70 = .ok (.iload_n 3, 1) := by decide +kernel
theorem dX10_findMixes_71 : decode cX10_findMixes 71 = .ok (.ifCond .lt 193, 3) := by decide +kernel
theorem dX10_findMixes_74 : decode cX10_findMixes 74 = .ok (.iconst 0, 1) := by decide +kernel
theorem dX10_findMixes_75 : decode cX10_findMixes 75 = .ok (.istore 4, 2) := by decide +kernel
theorem dX10_findMixes_77 : decode cX10_findMixes 77 = .ok (.iload 4, 2) := by decide +kernel
theorem dX10_findMixes_79 : decode cX10_findMixes 79 = .ok (.iload_n 1, 1) := by decide +kernel
theorem dX10_findMixes_80 : decode cX10_findMixes 80 = .ok (.if_icmp .gt 178, 3) := by decide +kernel
theorem dX10_findMixes_83 : decode cX10_findMixes 83 = .ok (.iconst 0, 1) := by decide +kernel
theorem dX10_findMixes_84 : decode cX10_findMixes 84 = .ok (.istore 5, 2) := by decide +kernel
theorem dX10_findMixes_86 : decode cX10_findMixes 86 = .ok (.iload 5, 2) := by decide +kernel
theorem dX10_findMixes_88 : decode cX10_findMixes 88 = .ok (.bipush 100, 2) := by decide +kernel
theorem dX10_findMixes_90 : decode cX10_findMixes 90 = .ok (.iload 4, 2) := by decide +kernel
theorem dX10_findMixes_92 : decode cX10_findMixes 92 = .ok (.imul, 1) := by decide +kernel
theorem dX10_findMixes_93 : decode cX10_findMixes 93 = .ok (.if_icmp .gt 159, 3) := by decide +kernel
theorem dX10_findMixes_96 : decode cX10_findMixes 96 = .ok (.ldc_w 388, 3) := by decide +kernel
theorem dX10_findMixes_99 : decode cX10_findMixes 99 = .ok (.istore 6, 2) := by decide +kernel
theorem dX10_findMixes_101 : decode cX10_findMixes 101 = .ok (.iconst 0, 1) := by decide +kernel
theorem dX10_findMixes_102 : decode cX10_findMixes 102 = .ok (.istore 7, 2) := by decide +kernel
theorem dX10_findMixes_104 : decode cX10_findMixes 104 = .ok (.iload 7, 2) := by decide +kernel
theorem dX10_findMixes_106 : decode cX10_findMixes 106 = .ok (.aload_n 0, 1) := by decide +kernel
theorem dX10_findMixes_107 : decode cX10_findMixes 107 = .ok (.getfield 13, 3) := by decide +kernel
theorem dX10_findMixes_110 : decode cX10_findMixes 110 = .ok (.bipush 31, 2) := by decide +kernel
theorem dX10_findMixes_112 : decode cX10_findMixes 112 = .ok (.iconst 3, 1) := by decide +kernel
theorem dX10_findMixes_113 : decode cX10_findMixes 113 = .ok (.iload_n 3, 1) := by decide +kernel
theorem dX10_findMixes_114 : decode cX10_findMixes 114 = .ok (.imul, 1) := by decide +kernel
theorem dX10_findMixes_115 : decode cX10_findMixes 115 = .ok (.iadd, 1) := by decide +kernel
theorem dX10_findMixes_116 : decode cX10_findMixes 116 = .ok (.iconst 2, 1) := by decide +kernel
theorem dX10_findMixes_117 : decode cX10_findMixes 117 = .ok (.iadd, 1) := by decide +kernel
theorem dX10_findMixes_118 : decode cX10_findMixes 118 = .ok (.iaload, 1) := by decide +kernel
theorem dX10_findMixes_119 : decode cX10_findMixes 119 = .ok (.if_icmp .gt 112, 3) := by decide +kernel
theorem dX10_findMixes_122 : decode cX10_findMixes 122 = .ok (.iload 7, 2) := by decide +kernel
theorem dX10_findMixes_124 : decode cX10_findMixes 124 = .ok (.iload 4, 2) := by decide +kernel
theorem dX10_findMixes_126 : decode cX10_findMixes 126 = .ok (.if_icmp .gt 105, 3) := by decide +kernel
theorem dX10_findMixes_129 : decode cX10_findMixes 129 = .ok (.iload 5, 2) := by decide +kernel
theorem dX10_findMixes_131 : decode cX10_findMixes 131 = .ok (.iload 7, 2) := by decide +kernel
theorem dX10_findMixes_133 : decode cX10_findMixes 133 = .ok (.aload_n 0, 1) := by decide +kernel
theorem dX10_findMixes_134 : decode cX10_findMixes 134 = .ok (.getfield 13, 3) := by decide +kernel
theorem dX10_findMixes_137 : decode cX10_findMixes 137 = .ok (.bipush 31, 2) := by decide +kernel
theorem dX10_findMixes_139 : decode cX10_findMixes 139 = .ok (.iconst 3, 1) := by decide +kernel
theorem dX10_findMixes_140 : decode cX10_findMixes 140 = .ok (.iload_n 3, 1) := by decide +kernel
theorem dX10_findMixes_141 : decode cX10_findMixes 141 = .ok (.imul, 1) := by decide +kernel
theorem dX10_findMixes_142 : decode cX10_findMixes 142 = .ok (.iadd, 1) := by decide +kernel
theorem dX10_findMixes_143 : decode cX10_findMixes 143 = .ok (.iaload, 1) := by decide +kernel
theorem dX10_findMixes_144 : decode cX10_findMixes 144 = .ok (.imul, 1) := by decide +kernel
theorem dX10_findMixes_145 : decode cX10_findMixes 145 = .ok (.isub, 1) := by decide +kernel
theorem dX10_findMixes_146 : decode cX10_findMixes 146 = .ok (.istore 8, 2) := by decide +kernel
theorem dX10_findMixes_148 : decode cX10_findMixes 148 = .ok (.iload 8, 2) := by decide +kernel
theorem dX10_findMixes_150 : decode cX10_findMixes 150 = .ok (.ifCond .lt 16, 3) := by decide +kernel
theorem dX10_findMixes_153 : decode cX10_findMixes 153 = .ok (.iload 8, 2) := by decide +kernel
theorem dX10_findMixes_155 : decode cX10_findMixes 155 = .ok (.bipush 100, 2) := by decide +kernel
theorem dX10_findMixes_157 : decode cX10_findMixes 157 = .ok (.iload 4, 2) := by decide +kernel
theorem dX10_findMixes_159 : decode cX10_findMixes 159 = .ok (.iload 7, 2) := by decide +kernel
theorem dX10_findMixes_161 : decode cX10_findMixes 161 = .ok (.isub, 1) := by decide +kernel
theorem dX10_findMixes_162 : decode cX10_findMixes 162 = .ok (.imul, 1) := by decide +kernel
theorem dX10_findMixes_163 : decode cX10_findMixes 163 = .ok (.if_icmp .le 9, 3) := by decide +kernel
theorem dX10_findMixes_166 : decode cX10_findMixes 166 = .ok (.ldc_w 388, 3) := by decide +kernel
theorem dX10_findMixes_169 : decode cX10_findMixes 169 = .ok (.goto 38, 3) := by decide +kernel
theorem dX10_findMixes_172 : decode cX10_findMixes 172 = .ok (.aload_n 0, 1) := by decide +kernel
theorem dX10_findMixes_173 : decode cX10_findMixes 173 = .ok (.getfield 71, 3) := by decide +kernel
theorem dX10_findMixes_176 : decode cX10_findMixes 176 = .ok (.iload_n 3, 1) := by decide +kernel
theorem dX10_findMixes_177 : decode cX10_findMixes 177 = .ok (.iconst 1, 1) := by decide +kernel
theorem dX10_findMixes_178 : decode cX10_findMixes 178 = .ok (.iadd, 1) := by decide +kernel
theorem dX10_findMixes_179 : decode cX10_findMixes 179 = .ok (.iload 4, 2) := by decide +kernel
theorem dX10_findMixes_181 : decode cX10_findMixes 181 = .ok (.iload 7, 2) := by decide +kernel
theorem dX10_findMixes_183 : decode cX10_findMixes 183 = .ok (.isub, 1) := by decide +kernel
theorem dX10_findMixes_184 : decode cX10_findMixes 184 = .ok (.iload 8, 2) := by decide +kernel
theorem dX10_findMixes_186 : decode cX10_findMixes 186 = .ok (.invokestatic 385, 3) := by decide +kernel
theorem dX10_findMixes_189 : decode cX10_findMixes 189 = .ok (.iaload, 1) := by decide +kernel
theorem dX10_findMixes_190 : decode cX10_findMixes 190 = .ok (.iload 7, 2) := by decide +kernel
theorem dX10_findMixes_192 : decode cX10_findMixes 192 = .ok (.aload_n 0, 1) := by decide +kernel
theorem dX10_findMixes_193 : decode cX10_findMixes 193 = .ok (.getfield 13, 3) := by decide +kernel
theorem dX10_findMixes_196 : decode cX10_findMixes 196 = .ok (.bipush 31, 2) := by decide +kernel
theorem dX10_findMixes_198 : decode cX10_findMixes 198 = .ok (.iconst 3, 1) := by decide +kernel
theorem dX10_findMixes_199 : decode cX10_findMixes 199 = .ok (.iload_n 3, 1) := by decide +kernel
theorem dX10_findMixes_200 : decode cX10_findMixes 200 = .ok (.imul, 1) := by decide +kernel
theorem dX10_findMixes_201 : decode cX10_findMixes 201 = .ok (.iadd, 1) := by decide +kernel
theorem dX10_findMixes_202 : decode cX10_findMixes 202 = .ok (.iconst 1, 1) := by decide +kernel
theorem dX10_findMixes_203 : decode cX10_findMixes 203 = .ok (.iadd, 1) := by decide +kernel
theorem dX10_findMixes_204 : decode cX10_findMixes 204 = .ok (.iaload, 1) := by decide +kernel
theorem dX10_findMixes_205 : decode cX10_findMixes 205 = .ok (.imul, 1) := by decide +kernel
theorem dX10_findMixes_206 : decode cX10_findMixes 206 = .ok (.iadd, 1) := by decide +kernel
theorem dX10_findMixes_207 : decode cX10_findMixes 207 = .ok (.istore 9, 2) := by decide +kernel
theorem dX10_findMixes_209 : decode cX10_findMixes 209 = .ok (.iload 9, 2) := by decide +kernel
theorem dX10_findMixes_211 : decode cX10_findMixes 211 = .ok (.iload 6, 2) := by decide +kernel
theorem dX10_findMixes_213 : decode cX10_findMixes 213 = .ok (.if_icmp .ge 8, 3) := by decide +kernel
theorem dX10_findMixes_216 : decode cX10_findMixes 216 = .ok (.iload 9, 2) := by decide +kernel
theorem dX10_findMixes_218 : decode cX10_findMixes 218 = .ok (.goto 5, 3) := by decide +kernel
theorem dX10_findMixes_221 : decode cX10_findMixes 221 = .ok (.iload 6, 2) := by decide +kernel
theorem dX10_findMixes_223 : decode cX10_findMixes 223 = .ok (.istore 6, 2) := by decide +kernel
theorem dX10_findMixes_225 : decode cX10_findMixes 225 = .ok (.iinc 7 1, 3) := by decide +kernel
theorem dX10_findMixes_228 : decode cX10_findMixes 228 = .ok (.goto (-124), 3) := by decide +kernel
theorem dX10_findMixes_231 : decode cX10_findMixes 231 = .ok (.aload_n 0, 1) := by decide +kernel
theorem dX10_findMixes_232 : decode cX10_findMixes 232 = .ok (.getfield 71, 3) := by decide +kernel
theorem dX10_findMixes_235 : decode cX10_findMixes 235 = .ok (.iload_n 3, 1) := by decide +kernel
theorem dX10_findMixes_236 : decode cX10_findMixes 236 = .ok (.iload 4, 2) := by decide +kernel
theorem dX10_findMixes_238 : decode cX10_findMixes 238 = .ok (.iload 5, 2) := by decide +kernel
theorem dX10_findMixes_240 : decode cX10_findMixes 240 = .ok (.invokestatic 385, 3) := by decide +kernel
theorem dX10_findMixes_243 : decode cX10_findMixes 243 = .ok (.iload 6, 2) := by decide +kernel
theorem dX10_findMixes_245 : decode cX10_findMixes 245 = .ok (.iastore, 1) := by decide +kernel
theorem dX10_findMixes_246 : decode cX10_findMixes 246 = .ok (.iinc 5 1, 3) := by decide +kernel
theorem dX10_findMixes_249 : decode cX10_findMixes 249 = .ok (.goto (-163), 3) := by decide +kernel
theorem dX10_findMixes_252 : decode cX10_findMixes 252 = .ok (.iinc 4 1, 3) := by decide +kernel
theorem dX10_findMixes_255 : decode cX10_findMixes 255 = .ok (.goto (-178), 3) := by decide +kernel
theorem dX10_findMixes_258 : decode cX10_findMixes 258 = .ok (.iinc 3 (-1), 3) := by decide +kernel
theorem dX10_findMixes_261 : decode cX10_findMixes 261 = .ok (.goto (-191), 3) := by decide +kernel
theorem dX10_findMixes_264 : decode cX10_findMixes 264 = .ok (.return_, 1) := by decide +kernel
theorem dX10_mix_0 : decode cX10_mix 0 = .ok (.aload_n 0, 1) := by decide +kernel
theorem dX10_mix_1 : decode cX10_mix 1 = .ok (.iconst 0, 1) := by decide +kernel
theorem dX10_mix_2 : decode cX10_mix 2 = .ok (.putfield 77, 3) := by decide +kernel
theorem dX10_mix_5 : decode cX10_mix 5 = .ok (.iload_n 1, 1) := by decide +kernel
theorem dX10_mix_6 : decode cX10_mix 6 = .ok (.i2l, 1) := by decide +kernel
theorem dX10_mix_7 : decode cX10_mix 7 = .ok (.lconst 1, 1) := by decide +kernel
theorem dX10_mix_8 : decode cX10_mix 8 = .ok (.ldc2_w 204, 3) := by decide +kernel
theorem dX10_mix_11 : decode cX10_mix 11 = .ok (.invokestatic 83, 3) := by decide +kernel
theorem dX10_mix_14 : decode cX10_mix 14 = .ok (.ifCond .eq 31, 3) := by decide +kernel
theorem dX10_mix_17 : decode cX10_mix 17 = .ok (.iload_n 2, 1) := by decide +kernel
theorem dX10_mix_18 : decode cX10_mix 18 = .ok (.i2l, 1) := by decide +kernel
theorem dX10_mix_19 : decode cX10_mix 19 = .ok (.lconst 0, 1) := by decide +kernel
theorem dX10_mix_20 : decode cX10_mix 20 = .ok (.ldc2_w 110, 3) := by decide +kernel
theorem dX10_mix_23 : decode cX10_mix 23 = .ok (.invokestatic 83, 3) := by decide +kernel
theorem dX10_mix_26 : decode cX10_mix 26 = .ok (.ifCond .eq 19, 3) := by decide +kernel
theorem dX10_mix_29 : decode cX10_mix 29 = .ok (.iload_n 3, 1) := by decide +kernel
theorem dX10_mix_30 : decode cX10_mix 30 = .ok (.i2l, 1) := by decide +kernel
theorem dX10_mix_31 : decode cX10_mix 31 = .ok (.lconst 0, 1) := by decide +kernel
theorem dX10_mix_32 : decode cX10_mix 32 = .ok (.aload_n 0, 1) := by decide +kernel
theorem dX10_mix_33 : decode cX10_mix 33 = .ok (.getfield 13, 3) := by decide +kernel
theorem dX10_mix_36 : decode cX10_mix 36 = .ok (.iconst 3, 1) := by decide +kernel
theorem dX10_mix_37 : decode cX10_mix 37 = .ok (.iaload, 1) := by decide +kernel
theorem dX10_mix_38 : decode cX10_mix 38 = .ok (.i2l, 1) := by decide +kernel
theorem dX10_mix_39 : decode cX10_mix 39 = .ok (.invokestatic 83, 3) := by decide +kernel
theorem dX10_mix_42 : decode cX10_mix 42 = .ok (.ifCond .ne 5, 3) := by decide +kernel
theorem dX10_mix_45 : decode cX10_mix 45 = .ok (.iconst (-1), 1) := by decide +kernel
theorem dX10_mix_46 : decode cX10_mix 46 = .ok (.ireturn, 1) := by decide +kernel
theorem dX10_mix_47 : decode cX10_mix 47 = .ok (.aload_n 0, 1) := by decide +kernel
theorem dX10_mix_48 : decode cX10_mix 48 = .ok (.iload_n 1, 1) := by decide +kernel
theorem dX10_mix_49 : decode cX10_mix 49 = .ok (.invokevirtual 389, 3) := by decide +kernel
theorem dX10_mix_52 : decode cX10_mix 52 = .ok (.iload_n 1, 1) := by decide +kernel
theorem dX10_mix_53 : decode cX10_mix 53 = .ok (.istore 4, 2) := by decide +kernel
theorem dX10_mix_55 : decode cX10_mix 55 = .ok (.iload_n 1, 1) := by decide +kernel
theorem dX10_mix_56 : decode cX10_mix 56 = .ok (.iload_n 2, 1) := by decide +kernel
theorem dX10_mix_57 : decode cX10_mix 57 = .ok (.imul, 1) := by decide +kernel
theorem dX10_mix_58 : decode cX10_mix 58 = .ok (.istore 5, 2) := by decide +kernel
theorem dX10_mix_60 : decode cX10_mix 60 = .ok (.aload_n 0, 1) := by decide +kernel
theorem dX10_mix_61 : decode cX10_mix 61 = .ok (.getfield 71, 3) := by decide +kernel
theorem dX10_mix_64 : decode cX10_mix 64 = .ok (.iconst 0, 1) := by decide +kernel
theorem dX10_mix_65 : decode cX10_mix 65 = .ok (.iload 4, 2) := by decide +kernel
theorem dX10_mix_67 : decode cX10_mix 67 = .ok (.iload 5, 2) := by decide +kernel
theorem dX10_mix_69 : decode cX10_mix 69 = .ok (.invokestatic 385, 3) := by decide +kernel
theorem dX10_mix_72 : decode cX10_mix 72 = .ok (.iaload, 1) := by decide +kernel
theorem dX10_mix_73 : decode cX10_mix 73 = .ok (.istore 6, 2) := by decide +kernel
theorem dX10_mix_75 : decode cX10_mix 75 = .ok (.iload 6, 2) := by decide +kernel
theorem dX10_mix_77 : decode cX10_mix 77 = .ok (.ldc_w 388, 3) := by decide +kernel
theorem dX10_mix_80 : decode cX10_mix 80 = .ok (.if_icmp .ge 7, 3) := by decide +kernel
theorem dX10_mix_83 : decode cX10_mix 83 = .ok (.iload_n 3, 1) := by decide +kernel
theorem dX10_mix_84 : decode cX10_mix 84 = .ok (.ifCond .ne 18, 3) := by decide +kernel
theorem dX10_mix_87 : decode cX10_mix 87 = .ok (.iload 6, 2) := by decide +kernel
theorem dX10_mix_89 : decode cX10_mix 89 = .ok (.ldc_w 388, 3) := by decide +kernel
theorem dX10_mix_92 : decode cX10_mix 92 = .ok (.if_icmp .lt 7, 3) := by decide +kernel
theorem dX10_mix_95 : decode cX10_mix 95 = .ok (.iconst (-1), 1) := by decide +kernel
theorem dX10_mix_96 : decode cX10_mix 96 = .ok (.goto 5, 3) := by decide +kernel
theorem dX10_mix_99 : decode cX10_mix 99 = .ok (.iload 6, 2) := by decide +kernel
theorem dX10_mix_101 : decode cX10_mix 101 = .ok (.ireturn, 1) := by decide +kernel
theorem dX10_mix_102 : decode cX10_mix 102 = .ok (.iconst 0, 1) := by decide +kernel
theorem dX10_mix_103 : decode cX10_mix 103 = .ok (.istore 7, 2) := by decide +kernel
theorem dX10_mix_105 : decode cX10_mix 105 = .ok (.iconst 0, 1) := by decide +kernel
theorem dX10_mix_106 : decode cX10_mix 106 = .ok (.istore 8, 2) := by decide +kernel
theorem dX10_mix_108 : decode cX10_mix 108 = .ok (.iload 8, 2) := by decide +kernel
theorem dX10_mix_110 : decode cX10_mix 110 = .ok (.iload_n 3, 1) := by decide +kernel
theorem dX10_mix_111 : decode cX10_mix 111 = .ok (.if_icmp .ge 60, 3) := by decide +kernel
theorem dX10_mix_114 : decode cX10_mix 114 = .ok (.iconst 0, 1) := by decide +kernel
theorem dX10_mix_115 : decode cX10_mix 115 = .ok (.istore 7, 2) := by decide +kernel
theorem dX10_mix_117 : decode cX10_mix 117 = .ok (.aload_n 0, 1) := by decide +kernel
theorem dX10_mix_118 : decode cX10_mix 118 = .ok (.iload 8, 2) := by decide +kernel
theorem dX10_mix_120 : decode cX10_mix 120 = .ok (.iload 4, 2) := by decide +kernel
theorem dX10_mix_122 : decode cX10_mix 122 = .ok (.iload 5, 2) := by decide +kernel
theorem dX10_mix_124 : decode cX10_mix 124 = .ok (.iload 7, 2) := by decide +kernel
theorem dX10_mix_126 : decode cX10_mix 126 = .ok (.invokevirtual 392, 3) := by decide +kernel
theorem dX10_mix_129 : decode cX10_mix 129 = .ok (.ifCond .ne 9, 3) := by decide +kernel
theorem dX10_mix_132 : decode cX10_mix 132 = .ok (.iinc 7 1, 3) := by decide +kernel
theorem dX10_mix_135 : decode cX10_mix 135 = .ok (.goto (-18), 3) := by decide +kernel
theorem dX10_mix_138 : decode cX10_mix 138 = .ok (.iload 4, 2) := by decide +kernel
theorem dX10_mix_140 : decode cX10_mix 140 = .ok (.iload 7, 2) := by decide +kernel
theorem dX10_mix_142 : decode cX10_mix 142 = .ok (.isub, 1) := by decide +kernel
theorem dX10_mix_143 : decode cX10_mix 143 = .ok (.istore 4, 2) := by decide +kernel
theorem dX10_mix_145 : decode cX10_mix 145 = .ok (.iload 5, 2) := by decide +kernel
theorem dX10_mix_147 : decode cX10_mix 147 = .ok (.iload 7, 2) := by decide +kernel
theorem dX10_mix_149 : decode cX10_mix 149 = .ok (.aload_n 0, 1) := by decide +kernel
theorem dX10_mix_150 : decode cX10_mix 150 = .ok (.getfield 13, 3) := by decide +kernel
theorem dX10_mix_153 : decode cX10_mix 153 = .ok (.bipush 31, 2) := by decide +kernel
theorem dX10_mix_155 : decode cX10_mix 155 = .ok (.iconst 3, 1) := by decide +kernel
theorem dX10_mix_156 : decode cX10_mix 156 = .ok (.iload 8, 2) := by decide +kernel
theorem dX10_mix_158 : decode cX10_mix 158 = .ok (.imul, 1) := by decide +kernel
theorem dX10_mix_159 : decode cX10_mix 159 = .ok (.iadd, 1) := by decide +kernel
theorem dX10_mix_160 : decode cX10_mix 160 = .ok (.iaload, 1) := by decide +kernel
theorem dX10_mix_161 : decode cX10_mix 161 = .ok (.imul, 1) := by decide +kernel
theorem dX10_mix_162 : decode cX10_mix 162 = .ok (.isub, 1) := by decide +kernel
theorem dX10_mix_163 : decode cX10_mix 163 = .ok (.istore 5, 2) := by decide +kernel
theorem dX10_mix_165 : decode cX10_mix 165 = .ok (.iinc 8 1, 3) := by decide +kernel
theorem dX10_mix_168 : decode cX10_mix 168 = .ok (.goto (-60), 3) := by decide +kernel
theorem dX10_mix_171 : decode cX10_mix 171 = .ok (.iload 7, 2) := by decide +kernel
theorem dX10_mix_173 : decode cX10_mix 173 = .ok (.ireturn, 1) := by decide +kernel
theorem dX10_isLeast_0 : decode cX10_isLeast 0 = .ok (.iload_n 3, 1) := by decide +kernel
theorem dX10_isLeast_1 : decode cX10_isLeast 1 = .ok (.iload 4, 2) := by decide +kernel
theorem dX10_isLeast_3 : decode cX10_isLeast 3 = .ok (.aload_n 0, 1) := by decide +kernel
theorem dX10_isLeast_4 : decode cX10_isLeast 4 = .ok (.getfield 13, 3) := by decide +kernel
theorem dX10_isLeast_7 : decode cX10_isLeast 7 = .ok (.bipush 31, 2) := by decide +kernel
theorem dX10_isLeast_9 : decode cX10_isLeast 9 = .ok (.iconst 3, 1) := by decide +kernel
theorem dX10_isLeast_10 : decode cX10_isLeast 10 = .ok (.iload_n 1, 1) := by decide +kernel
theorem dX10_isLeast_11 : decode cX10_isLeast 11 = .ok (.imul, 1) := by decide +kernel
theorem dX10_isLeast_12 : decode cX10_isLeast 12 = .ok (.iadd, 1) := by decide +kernel
theorem dX10_isLeast_13 : decode cX10_isLeast 13 = .ok (.iaload, 1) := by decide +kernel
theorem dX10_isLeast_14 : decode cX10_isLeast 14 = .ok (.imul, 1) := by decide +kernel
theorem dX10_isLeast_15 : decode cX10_isLeast 15 = .ok (.isub, 1) := by decide +kernel
theorem dX10_isLeast_16 : decode cX10_isLeast 16 = .ok (.istore 5, 2) := by decide +kernel
theorem dX10_isLeast_18 : decode cX10_isLeast 18 = .ok (.iload 5, 2) := by decide +kernel
theorem dX10_isLeast_20 : decode cX10_isLeast 20 = .ok (.ifCond .lt 67, 3) := by decide +kernel
theorem dX10_isLeast_23 : decode cX10_isLeast 23 = .ok (.iload 5, 2) := by decide +kernel
theorem dX10_isLeast_25 : decode cX10_isLeast 25 = .ok (.bipush 100, 2) := by decide +kernel
theorem dX10_isLeast_27 : decode cX10_isLeast 27 = .ok (.iload_n 2, 1) := by decide +kernel
theorem dX10_isLeast_28 : decode cX10_isLeast 28 = .ok (.iload 4, 2) := by decide +kernel
theorem dX10_isLeast_30 : decode cX10_isLeast 30 = .ok (.isub, 1) := by decide +kernel
theorem dX10_isLeast_31 : decode cX10_isLeast 31 = .ok (.imul, 1) := by decide +kernel
theorem dX10_isLeast_32 : decode cX10_isLeast 32 = .ok (.if_icmp .gt 55, 3) := by decide +kernel
theorem dX10_isLeast_35 : decode cX10_isLeast 35 = .ok (.aload_n 0, 1) := by decide +kernel
theorem dX10_isLeast_36 : decode cX10_isLeast 36 = .ok (.getfield 71, 3) := by decide +kernel
theorem dX10_isLeast_39 : decode cX10_isLeast 39 = .ok (.iload_n 1, 1) := by decide +kernel
theorem dX10_isLeast_40 : decode cX10_isLeast 40 = .ok (.iconst 1, 1) := by decide +kernel
theorem dX10_isLeast_41 : decode cX10_isLeast 41 = .ok (.iadd, 1) := by decide +kernel
theorem dX10_isLeast_42 : decode cX10_isLeast 42 = .ok (.iload_n 2, 1) := by decide +kernel
theorem dX10_isLeast_43 : decode cX10_isLeast 43 = .ok (.iload 4, 2) := by decide +kernel
theorem dX10_isLeast_45 : decode cX10_isLeast 45 = .ok (.isub, 1) := by decide +kernel
theorem dX10_isLeast_46 : decode cX10_isLeast 46 = .ok (.iload 5, 2) := by decide +kernel
theorem dX10_isLeast_48 : decode cX10_isLeast 48 = .ok (.invokestatic 385, 3) := by decide +kernel
theorem dX10_isLeast_51 : decode cX10_isLeast 51 = .ok (.iaload, 1) := by decide +kernel
theorem dX10_isLeast_52 : decode cX10_isLeast 52 = .ok (.iload 4, 2) := by decide +kernel
theorem dX10_isLeast_54 : decode cX10_isLeast 54 = .ok (.aload_n 0, 1) := by decide +kernel
theorem dX10_isLeast_55 : decode cX10_isLeast 55 = .ok (.getfield 13, 3) := by decide +kernel
theorem dX10_isLeast_58 : decode cX10_isLeast 58 = .ok (.bipush 31, 2) := by decide +kernel
theorem dX10_isLeast_60 : decode cX10_isLeast 60 = .ok (.iconst 3, 1) := by decide +kernel
theorem dX10_isLeast_61 : decode cX10_isLeast 61 = .ok (.iload_n 1, 1) := by decide +kernel
theorem dX10_isLeast_62 : decode cX10_isLeast 62 = .ok (.imul, 1) := by decide +kernel
theorem dX10_isLeast_63 : decode cX10_isLeast 63 = .ok (.iadd, 1) := by decide +kernel
theorem dX10_isLeast_64 : decode cX10_isLeast 64 = .ok (.iconst 1, 1) := by decide +kernel
theorem dX10_isLeast_65 : decode cX10_isLeast 65 = .ok (.iadd, 1) := by decide +kernel
theorem dX10_isLeast_66 : decode cX10_isLeast 66 = .ok (.iaload, 1) := by decide +kernel
theorem dX10_isLeast_67 : decode cX10_isLeast 67 = .ok (.imul, 1) := by decide +kernel
theorem dX10_isLeast_68 : decode cX10_isLeast 68 = .ok (.iadd, 1) := by decide +kernel
theorem dX10_isLeast_69 : decode cX10_isLeast 69 = .ok (.aload_n 0, 1) := by decide +kernel
theorem dX10_isLeast_70 : decode cX10_isLeast 70 = .ok (.getfield 71, 3) := by decide +kernel
theorem dX10_isLeast_73 : decode cX10_isLeast 73 = .ok (.iload_n 1, 1) := by decide +kernel
theorem dX10_isLeast_74 : decode cX10_isLeast 74 = .ok (.iload_n 2, 1) := by decide +kernel
theorem dX10_isLeast_75 : decode cX10_isLeast 75 = .ok (.iload_n 3, 1) := by decide +kernel
theorem dX10_isLeast_76 : decode cX10_isLeast 76 = .ok (.invokestatic 385, 3) := by decide +kernel
theorem dX10_isLeast_79 : decode cX10_isLeast 79 = .ok (.iaload, 1) := by decide +kernel
theorem dX10_isLeast_80 : decode cX10_isLeast 80 = .ok (.if_icmp .ne 7, 3) := by decide +kernel
theorem dX10_isLeast_83 : decode cX10_isLeast 83 = .ok (.iconst 1, 1) := by decide +kernel
theorem dX10_isLeast_84 : decode cX10_isLeast 84 = .ok (.goto 4, 3) := by decide +kernel
theorem dX10_isLeast_87 : decode cX10_isLeast 87 = .ok (.iconst 0, 1) := by decide +kernel
theorem dX10_isLeast_88 : decode cX10_isLeast 88 = .ok (.ireturn, 1) := by decide +kernel
theorem dX10_choose_0 : decode cX10_choose 0 = .ok (.iload_n 1, 1) := by decide +kernel
theorem dX10_choose_1 : decode cX10_choose 1 = .ok (.ifCond .lt 8, 3) := by decide +kernel
theorem dX10_choose_4 : decode cX10_choose 4 = .ok (.iload_n 1, 1) := by decide +kernel
theorem dX10_choose_5 : decode cX10_choose 5 = .ok (.iload_n 0, 1) := by decide +kernel
theorem dX10_choose_6 : decode cX10_choose 6 = .ok (.if_icmp .le 5, 3) := by decide +kernel
theorem dX10_choose_9 : decode cX10_choose 9 = .ok (.lconst 0, 1) := by decide +kernel
theorem dX10_choose_10 : decode cX10_choose 10 = .ok (.lreturn, 1) := by decide +kernel
theorem dX10_choose_11 : decode cX10_choose 11 = .ok (.lconst 1, 1) := by decide +kernel
theorem dX10_choose_12 : decode cX10_choose 12 = .ok (.lstore_n 2, 1) := by decide +kernel
theorem dX10_choose_13 : decode cX10_choose 13 = .ok (.iconst 1, 1) := by decide +kernel
theorem dX10_choose_14 : decode cX10_choose 14 = .ok (.istore 4, 2) := by decide +kernel
theorem dX10_choose_16 : decode cX10_choose 16 = .ok (.iload 4, 2) := by decide +kernel
theorem dX10_choose_18 : decode cX10_choose 18 = .ok (.iload_n 1, 1) := by decide +kernel
theorem dX10_choose_19 : decode cX10_choose 19 = .ok (.if_icmp .gt 23, 3) := by decide +kernel
theorem dX10_choose_22 : decode cX10_choose 22 = .ok (.lload_n 2, 1) := by decide +kernel
theorem dX10_choose_23 : decode cX10_choose 23 = .ok (.iload_n 0, 1) := by decide +kernel
theorem dX10_choose_24 : decode cX10_choose 24 = .ok (.iload_n 1, 1) := by decide +kernel
theorem dX10_choose_25 : decode cX10_choose 25 = .ok (.isub, 1) := by decide +kernel
theorem dX10_choose_26 : decode cX10_choose 26 = .ok (.iload 4, 2) := by decide +kernel
theorem dX10_choose_28 : decode cX10_choose 28 = .ok (.iadd, 1) := by decide +kernel
theorem dX10_choose_29 : decode cX10_choose 29 = .ok (.i2l, 1) := by decide +kernel
theorem dX10_choose_30 : decode cX10_choose 30 = .ok (.lmul, 1) := by decide +kernel
theorem dX10_choose_31 : decode cX10_choose 31 = .ok (.iload 4, 2) := by decide +kernel
theorem dX10_choose_33 : decode cX10_choose 33 = .ok (.i2l, 1) := by decide +kernel
theorem dX10_choose_34 : decode cX10_choose 34 = .ok (.ldiv, 1) := by decide +kernel
theorem dX10_choose_35 : decode cX10_choose 35 = .ok (.lstore_n 2, 1) := by decide +kernel
theorem dX10_choose_36 : decode cX10_choose 36 = .ok (.iinc 4 1, 3) := by decide +kernel
theorem dX10_choose_39 : decode cX10_choose 39 = .ok (.goto (-23), 3) := by decide +kernel
theorem dX10_choose_42 : decode cX10_choose 42 = .ok (.lload_n 2, 1) := by decide +kernel
theorem dX10_choose_43 : decode cX10_choose 43 = .ok (.lreturn, 1) := by decide +kernel
theorem dX10_cards_0 : decode cX10_cards 0 = .ok (.aload_n 0, 1) := by decide +kernel
theorem dX10_cards_1 : decode cX10_cards 1 = .ok (.iconst 0, 1) := by decide +kernel
theorem dX10_cards_2 : decode cX10_cards 2 = .ok (.putfield 77, 3) := by decide +kernel
theorem dX10_cards_5 : decode cX10_cards 5 = .ok (.iload_n 1, 1) := by decide +kernel
theorem dX10_cards_6 : decode cX10_cards 6 = .ok (.i2l, 1) := by decide +kernel
theorem dX10_cards_7 : decode cX10_cards 7 = .ok (.lconst 0, 1) := by decide +kernel
theorem dX10_cards_8 : decode cX10_cards 8 = .ok (.ldc2_w 204, 3) := by decide +kernel
theorem dX10_cards_11 : decode cX10_cards 11 = .ok (.invokestatic 83, 3) := by decide +kernel
theorem dX10_cards_14 : decode cX10_cards 14 = .ok (.ifCond .eq 49, 3) := by decide +kernel
theorem dX10_cards_17 : decode cX10_cards 17 = .ok (.iload_n 2, 1) := by decide +kernel
theorem dX10_cards_18 : decode cX10_cards 18 = .ok (.i2l, 1) := by decide +kernel
theorem dX10_cards_19 : decode cX10_cards 19 = .ok (.lconst 0, 1) := by decide +kernel
theorem dX10_cards_20 : decode cX10_cards 20 = .ok (.ldc2_w 204, 3) := by decide +kernel
theorem dX10_cards_23 : decode cX10_cards 23 = .ok (.invokestatic 83, 3) := by decide +kernel
theorem dX10_cards_26 : decode cX10_cards 26 = .ok (.ifCond .eq 37, 3) := by decide +kernel
theorem dX10_cards_29 : decode cX10_cards 29 = .ok (.iload_n 3, 1) := by decide +kernel
theorem dX10_cards_30 : decode cX10_cards 30 = .ok (.i2l, 1) := by decide +kernel
theorem dX10_cards_31 : decode cX10_cards 31 = .ok (.lconst 0, 1) := by decide +kernel
theorem dX10_cards_32 : decode cX10_cards 32 = .ok (.iload_n 1, 1) := by decide +kernel
theorem dX10_cards_33 : decode cX10_cards 33 = .ok (.i2l, 1) := by decide +kernel
theorem dX10_cards_34 : decode cX10_cards 34 = .ok (.invokestatic 83, 3) := by decide +kernel
theorem dX10_cards_37 : decode cX10_cards 37 = .ok (.ifCond .eq 26, 3) := by decide +kernel
theorem dX10_cards_40 : decode cX10_cards 40 = .ok (.iload 4, 2) := by decide +kernel
theorem dX10_cards_42 : decode cX10_cards 42 = .ok (.i2l, 1) := by decide +kernel
theorem dX10_cards_43 : decode cX10_cards 43 = .ok (.lconst 0, 1) := by decide +kernel
theorem dX10_cards_44 : decode cX10_cards 44 = .ok (.iload_n 3, 1) := by decide +kernel
theorem dX10_cards_45 : decode cX10_cards 45 = .ok (.i2l, 1) := by decide +kernel
theorem dX10_cards_46 : decode cX10_cards 46 = .ok (.invokestatic 83, 3) := by decide +kernel
theorem dX10_cards_49 : decode cX10_cards 49 = .ok (.ifCond .eq 14, 3) := by decide +kernel
theorem dX10_cards_52 : decode cX10_cards 52 = .ok (.iload 5, 2) := by decide +kernel
theorem dX10_cards_54 : decode cX10_cards 54 = .ok (.i2l, 1) := by decide +kernel
theorem dX10_cards_55 : decode cX10_cards 55 = .ok (.lconst 0, 1) := by decide +kernel
theorem dX10_cards_56 : decode cX10_cards 56 = .ok (.lconst 1, 1) := by decide +kernel
theorem dX10_cards_57 : decode cX10_cards 57 = .ok (.invokestatic 83, 3) := by decide +kernel
theorem dX10_cards_60 : decode cX10_cards 60 = .ok (.ifCond .ne 7, 3) := by decide +kernel
theorem dX10_cards_63 : decode cX10_cards 63 = .ok (.ldc2_w 108, 3) := by decide +kernel
theorem dX10_cards_66 : decode cX10_cards 66 = .ok (.lreturn, 1) := by decide +kernel
theorem dX10_cards_67 : decode cX10_cards 67 = .ok (.iload_n 1, 1) := by decide +kernel
theorem dX10_cards_68 : decode cX10_cards 68 = .ok (.iload_n 3, 1) := by decide +kernel
theorem dX10_cards_69 : decode cX10_cards 69 = .ok (.invokestatic 396, 3) := by decide +kernel
theorem dX10_cards_72 : decode cX10_cards 72 = .ok (.iload 5, 2) := by decide +kernel
theorem dX10_cards_74 : decode cX10_cards 74 = .ok (.iconst 1, 1) := by decide +kernel
theorem dX10_cards_75 : decode cX10_cards 75 = .ok (.if_icmp .ne 13, 3) := by decide +kernel
theorem dX10_cards_78 : decode cX10_cards 78 = .ok (.iload_n 2, 1) := by decide +kernel
theorem dX10_cards_79 : decode cX10_cards 79 = .ok (.iload_n 3, 1) := by decide +kernel
theorem dX10_cards_80 : decode cX10_cards 80 = .ok (.iadd, 1) := by decide +kernel
theorem dX10_cards_81 : decode cX10_cards 81 = .ok (.iload_n 3, 1) := by decide +kernel
theorem dX10_cards_82 : decode cX10_cards 82 = .ok (.invokestatic 396, 3) := by decide +kernel
theorem dX10_cards_85 : decode cX10_cards 85 = .ok (.goto 16, 3) := by decide +kernel
theorem dX10_cards_88 : decode cX10_cards 88 = .ok (.iload_n 3, 1) := by decide +kernel
theorem dX10_cards_89 : decode cX10_cards 89 = .ok (.iload 4, 2) := by decide +kernel
theorem dX10_cards_91 : decode cX10_cards 91 = .ok (.invokestatic 396, 3) := by decide +kernel
theorem dX10_cards_94 : decode cX10_cards 94 = .ok (.iload_n 2, 1) := by decide +kernel
theorem dX10_cards_95 : decode cX10_cards 95 = .ok (.iload 4, 2) := by decide +kernel
theorem dX10_cards_97 : decode cX10_cards 97 = .ok (.invokestatic 396, 3) := by decide +kernel
theorem dX10_cards_100 : decode cX10_cards 100 = .ok (.lmul, 1) := by decide +kernel
theorem dX10_cards_101 : decode cX10_cards 101 = .ok (.lmul, 1) := by decide +kernel
theorem dX10_cards_102 : decode cX10_cards 102 = .ok (.lreturn, 1) := by decide +kernel
theorem dX10_draw_0 : decode cX10_draw 0 = .ok (.aload_n 0, 1) := by decide +kernel
theorem dX10_draw_1 : decode cX10_draw 1 = .ok (.aload_n 0, 1) := by decide +kernel
theorem dX10_draw_2 : decode cX10_draw 2 = .ok (.getfield 399, 3) := by decide +kernel
theorem dX10_draw_5 : decode cX10_draw 5 = .ok (.ldc2_w 402, 3) := by decide +kernel
theorem dX10_draw_8 : decode cX10_draw 8 = .ok (.lmul, 1) := by decide +kernel
theorem dX10_draw_9 : decode cX10_draw 9 = .ok (.ldc2_w 404, 3) := by decide +kernel
theorem dX10_draw_12 : decode cX10_draw 12 = .ok (.ladd, 1) := by decide +kernel
theorem dX10_draw_13 : decode cX10_draw 13 = .ok (.ldc2_w 406, 3) := by decide +kernel
theorem dX10_draw_16 : decode cX10_draw 16 = .ok (.lrem, 1) := by decide +kernel
theorem dX10_draw_17 : decode cX10_draw 17 = .ok (.putfield 399, 3) := by decide +kernel
theorem dX10_draw_20 : decode cX10_draw 20 = .ok (.aload_n 0, 1) := by decide +kernel
theorem dX10_draw_21 : decode cX10_draw 21 = .ok (.getfield 399, 3) := by decide +kernel
theorem dX10_draw_24 : decode cX10_draw 24 = .ok (.iload_n 1, 1) := by decide +kernel
theorem dX10_draw_25 : decode cX10_draw 25 = .ok (.i2l, 1) := by decide +kernel
theorem dX10_draw_26 : decode cX10_draw 26 = .ok (.lrem, 1) := by decide +kernel
theorem dX10_draw_27 : decode cX10_draw 27 = .ok (.l2i, 1) := by decide +kernel
theorem dX10_draw_28 : decode cX10_draw 28 = .ok (.ireturn, 1) := by decide +kernel
theorem dX10_night_0 : decode cX10_night 0 = .ok (.aload_n 0, 1) := by decide +kernel
theorem dX10_night_1 : decode cX10_night 1 = .ok (.iconst 0, 1) := by decide +kernel
theorem dX10_night_2 : decode cX10_night 2 = .ok (.putfield 77, 3) := by decide +kernel
theorem dX10_night_5 : decode cX10_night 5 = .ok (.iload_n 1, 1) := by decide +kernel
theorem dX10_night_6 : decode cX10_night 6 = .ok (.i2l, 1) := by decide +kernel
theorem dX10_night_7 : decode cX10_night 7 = .ok (.lconst 0, 1) := by decide +kernel
theorem dX10_night_8 : decode cX10_night 8 = .ok (.ldc2_w 181, 3) := by decide +kernel
theorem dX10_night_11 : decode cX10_night 11 = .ok (.invokestatic 83, 3) := by decide +kernel
theorem dX10_night_14 : decode cX10_night 14 = .ok (.ifCond .eq 15, 3) := by decide +kernel
theorem dX10_night_17 : decode cX10_night 17 = .ok (.iload_n 2, 1) := by decide +kernel
theorem dX10_night_18 : decode cX10_night 18 = .ok (.i2l, 1) := by decide +kernel
theorem dX10_night_19 : decode cX10_night 19 = .ok (.lconst 1, 1) := by decide +kernel
theorem dX10_night_20 : decode cX10_night 20 = .ok (.ldc2_w 204, 3) := by decide +kernel
theorem dX10_night_23 : decode cX10_night 23 = .ok (.invokestatic 83, 3) := by decide +kernel
theorem dX10_night_26 : decode cX10_night 26 = .ok (.ifCond .ne 9, 3) := by decide +kernel
theorem dX10_night_29 : decode cX10_night 29 = .ok (.aload_n 0, 1) := by decide +kernel
theorem dX10_night_30 : decode cX10_night 30 = .ok (.iconst (-1), 1) := by decide +kernel
theorem dX10_night_31 : decode cX10_night 31 = .ok (.invokevirtual 87, 3) := by decide +kernel
theorem dX10_night_34 : decode cX10_night 34 = .ok (.ireturn, 1) := by decide +kernel
theorem dX10_night_35 : decode cX10_night 35 = .ok (.aload_n 0, 1) := by decide +kernel
theorem dX10_night_36 : decode cX10_night 36 = .ok (.sipush 275, 3) := by decide +kernel
theorem dX10_night_39 : decode cX10_night 39 = .ok (.invokevirtual 123, 3) := by decide +kernel
theorem dX10_night_42 : decode cX10_night 42 = .ok (.aload_n 0, 1) := by decide +kernel
theorem dX10_night_43 : decode cX10_night 43 = .ok (.iload_n 1, 1) := by decide +kernel
theorem dX10_night_44 : decode cX10_night 44 = .ok (.i2l, 1) := by decide +kernel
theorem dX10_night_45 : decode cX10_night 45 = .ok (.putfield 399, 3) := by decide +kernel
theorem dX10_night_48 : decode cX10_night 48 = .ok (.iconst 0, 1) := by decide +kernel
theorem dX10_night_49 : decode cX10_night 49 = .ok (.istore_n 3, 1) := by decide +kernel
theorem dX10_night_50 : decode cX10_night 50 = .ok (.iconst 0, 1) := by decide +kernel
theorem dX10_night_51 : decode cX10_night 51 = .ok (.istore 4, 2) := by decide +kernel
theorem dX10_night_53 : decode cX10_night 53 = .ok (.iload 4, 2) := by decide +kernel
theorem dX10_night_55 : decode cX10_night 55 = .ok (.iload_n 2, 1) := by decide +kernel
theorem dX10_night_56 : decode cX10_night 56 = .ok (.if_icmp .ge 88, 3) := by decide +kernel
theorem dX10_night_59 : decode cX10_night 59 = .ok (.aload_n 0, 1) := by decide +kernel
theorem dX10_night_60 : decode cX10_night 60 = .ok (.getfield 13, 3) := by decide +kernel
theorem dX10_night_63 : decode cX10_night 63 = .ok (.iconst 0, 1) := by decide +kernel
theorem dX10_night_64 : decode cX10_night 64 = .ok (.iaload, 1) := by decide +kernel
theorem dX10_night_65 : decode cX10_night 65 = .ok (.ifCond .le 79, 3) := by decide +kernel
theorem dX10_night_68 : decode cX10_night 68 = .ok (.aload_n 0, 1) := by decide +kernel
theorem dX10_night_69 : decode cX10_night 69 = .ok (.getfield 13, 3) := by decide +kernel
theorem dX10_night_72 : decode cX10_night 72 = .ok (.iconst 1, 1) := by decide +kernel
theorem dX10_night_73 : decode cX10_night 73 = .ok (.iaload, 1) := by decide +kernel
theorem dX10_night_74 : decode cX10_night 74 = .ok (.ifCond .le 70, 3) := by decide +kernel
theorem dX10_night_77 : decode cX10_night 77 = .ok (.aload_n 0, 1) := by decide +kernel
theorem dX10_night_78 : decode cX10_night 78 = .ok (.aload_n 0, 1) := by decide +kernel
theorem dX10_night_79 : decode cX10_night 79 = .ok (.getfield 13, 3) := by decide +kernel
theorem dX10_night_82 : decode cX10_night 82 = .ok (.iconst 0, 1) := by decide +kernel
theorem dX10_night_83 : decode cX10_night 83 = .ok (.iaload, 1) := by decide +kernel
theorem dX10_night_84 : decode cX10_night 84 = .ok (.invokevirtual 408, 3) := by decide +kernel
theorem dX10_night_87 : decode cX10_night 87 = .ok (.istore 5, 2) := by decide +kernel
theorem dX10_night_89 : decode cX10_night 89 = .ok (.aload_n 0, 1) := by decide +kernel
theorem dX10_night_90 : decode cX10_night 90 = .ok (.aload_n 0, 1) := by decide +kernel
theorem dX10_night_91 : decode cX10_night 91 = .ok (.getfield 13, 3) := by decide +kernel
theorem dX10_night_94 : decode cX10_night 94 = .ok (.iconst 0, 1) := by decide +kernel
theorem dX10_night_95 : decode cX10_night 95 = .ok (.iaload, 1) := by decide +kernel
theorem dX10_night_96 : decode cX10_night 96 = .ok (.invokevirtual 408, 3) := by decide +kernel
theorem dX10_night_99 : decode cX10_night 99 = .ok (.istore 6, 2) := by decide +kernel
theorem dX10_night_101 : decode cX10_night 101 = .ok (.iload_n 3, 1) := by decide +kernel
theorem dX10_night_102 : decode cX10_night 102 = .ok (.aload_n 0, 1) := by decide +kernel
theorem dX10_night_103 : decode cX10_night 103 = .ok (.iload 5, 2) := by decide +kernel
theorem dX10_night_105 : decode cX10_night 105 = .ok (.iload 6, 2) := by decide +kernel
theorem dX10_night_107 : decode cX10_night 107 = .ok (.aload_n 0, 1) := by decide +kernel
theorem dX10_night_108 : decode cX10_night 108 = .ok (.getfield 13, 3) := by decide +kernel
theorem dX10_night_111 : decode cX10_night 111 = .ok (.bipush 10, 2) := by decide +kernel
theorem dX10_night_113 : decode cX10_night 113 = .ok (.aload_n 0, 1) := by decide +kernel
theorem dX10_night_114 : decode cX10_night 114 = .ok (.aload_n 0, 1) := by decide +kernel
theorem dX10_night_115 : decode cX10_night 115 = .ok (.getfield 13, 3) := by decide +kernel
theorem dX10_night_118 : decode cX10_night 118 = .ok (.iconst 1, 1) := by decide +kernel
theorem dX10_night_119 : decode cX10_night 119 = .ok (.iaload, 1) := by decide +kernel
theorem dX10_night_120 : decode cX10_night 120 = .ok (.invokevirtual 408, 3) := by decide +kernel
theorem dX10_night_123 : decode cX10_night 123 = .ok (.iadd, 1) := by decide +kernel
theorem dX10_night_124 : decode cX10_night 124 = .ok (.iaload, 1) := by decide +kernel
theorem dX10_night_125 : decode cX10_night 125 = .ok (.invokevirtual 139, 3) := by decide +kernel
theorem dX10_night_128 : decode cX10_night 128 = .ok (.ifCond .ne 7, 3) := by decide +kernel
theorem dX10_night_131 : decode cX10_night 131 = .ok (.iconst 1, 1) := by decide +kernel
theorem dX10_night_132 : decode cX10_night 132 = .ok (.goto 4, 3) := by decide +kernel
theorem dX10_night_135 : decode cX10_night 135 = .ok (.iconst 0, 1) := by decide +kernel
theorem dX10_night_136 : decode cX10_night 136 = .ok (.iadd, 1) := by decide +kernel
theorem dX10_night_137 : decode cX10_night 137 = .ok (.istore_n 3, 1) := by decide +kernel
theorem dX10_night_138 : decode cX10_night 138 = .ok (.iinc 4 1, 3) := by decide +kernel
theorem dX10_night_141 : decode cX10_night 141 = .ok (.goto (-88), 3) := by decide +kernel
theorem dX10_night_144 : decode cX10_night 144 = .ok (.aload_n 0, 1) := by decide +kernel
theorem dX10_night_145 : decode cX10_night 145 = .ok (.aload_n 0, 1) := by decide +kernel
theorem dX10_night_146 : decode cX10_night 146 = .ok (.getfield 13, 3) := by decide +kernel
theorem dX10_night_149 : decode cX10_night 149 = .ok (.iconst 0, 1) := by decide +kernel
theorem dX10_night_150 : decode cX10_night 150 = .ok (.iaload, 1) := by decide +kernel
theorem dX10_night_151 : decode cX10_night 151 = .ok (.putfield 411, 3) := by decide +kernel
theorem dX10_night_154 : decode cX10_night 154 = .ok (.iconst 0, 1) := by decide +kernel
theorem dX10_night_155 : decode cX10_night 155 = .ok (.istore 4, 2) := by decide +kernel
theorem dX10_night_157 : decode cX10_night 157 = .ok (.iload 4, 2) := by decide +kernel
theorem dX10_night_159 : decode cX10_night 159 = .ok (.iconst 4, 1) := by decide +kernel
theorem dX10_night_160 : decode cX10_night 160 = .ok (.aload_n 0, 1) := by decide +kernel
theorem dX10_night_161 : decode cX10_night 161 = .ok (.getfield 411, 3) := by decide +kernel
theorem dX10_night_164 : decode cX10_night 164 = .ok (.imul, 1) := by decide +kernel
theorem dX10_night_165 : decode cX10_night 165 = .ok (.if_icmp .ge 28, 3) := by decide +kernel
theorem dX10_night_168 : decode cX10_night 168 = .ok (.aload_n 0, 1) := by decide +kernel
theorem dX10_night_169 : decode cX10_night 169 = .ok (.getfield 74, 3) := by decide +kernel
theorem dX10_night_172 : decode cX10_night 172 = .ok (.iload 4, 2) := by decide +kernel
theorem dX10_night_174 : decode cX10_night 174 = .ok (.aload_n 0, 1) := by decide +kernel
theorem dX10_night_175 : decode cX10_night 175 = .ok (.iload 4, 2) := by decide +kernel
theorem dX10_night_177 : decode cX10_night 177 = .ok (.iconst 4, 1) := by decide +kernel
theorem dX10_night_178 : decode cX10_night 178 = .ok (.idiv, 1) := by decide +kernel
theorem dX10_night_179 : decode cX10_night 179 = .ok (.iload 4, 2) := by decide +kernel
theorem dX10_night_181 : decode cX10_night 181 = .ok (.iconst 4, 1) := by decide +kernel
theorem dX10_night_182 : decode cX10_night 182 = .ok (.irem, 1) := by decide +kernel
theorem dX10_night_183 : decode cX10_night 183 = .ok (.invokevirtual 112, 3) := by decide +kernel
theorem dX10_night_186 : decode cX10_night 186 = .ok (.iastore, 1) := by decide +kernel
theorem dX10_night_187 : decode cX10_night 187 = .ok (.iinc 4 1, 3) := by decide +kernel
theorem dX10_night_190 : decode cX10_night 190 = .ok (.goto (-33), 3) := by decide +kernel
theorem dX10_night_193 : decode cX10_night 193 = .ok (.aload_n 0, 1) := by decide +kernel
theorem dX10_night_194 : decode cX10_night 194 = .ok (.sipush 275, 3) := by decide +kernel
theorem dX10_night_197 : decode cX10_night 197 = .ok (.invokevirtual 132, 3) := by decide +kernel
theorem dX10_night_200 : decode cX10_night 200 = .ok (.aload_n 0, 1) := by decide +kernel
theorem dX10_night_201 : decode cX10_night 201 = .ok (.iload_n 3, 1) := by decide +kernel
theorem dX10_night_202 : decode cX10_night 202 = .ok (.invokevirtual 87, 3) := by decide +kernel
theorem dX10_night_205 : decode cX10_night 205 = .ok (.ireturn, 1) := by decide +kernel
theorem dX10_drawn_0 : decode cX10_drawn 0 = .ok (.aload_n 0, 1) := by decide +kernel
theorem dX10_drawn_1 : decode cX10_drawn 1 = .ok (.iconst 0, 1) := by decide +kernel
theorem dX10_drawn_2 : decode cX10_drawn 2 = .ok (.putfield 77, 3) := by decide +kernel
theorem dX10_drawn_5 : decode cX10_drawn 5 = .ok (.iload_n 1, 1) := by decide +kernel
theorem dX10_drawn_6 : decode cX10_drawn 6 = .ok (.i2l, 1) := by decide +kernel
theorem dX10_drawn_7 : decode cX10_drawn 7 = .ok (.lconst 0, 1) := by decide +kernel
theorem dX10_drawn_8 : decode cX10_drawn 8 = .ok (.aload_n 0, 1) := by decide +kernel
theorem dX10_drawn_9 : decode cX10_drawn 9 = .ok (.getfield 411, 3) := by decide +kernel
theorem dX10_drawn_12 : decode cX10_drawn 12 = .ok (.i2l, 1) := by decide +kernel
theorem dX10_drawn_13 : decode cX10_drawn 13 = .ok (.lconst 1, 1) := by decide +kernel
theorem dX10_drawn_14 : decode cX10_drawn 14 = .ok (.lsub, 1) := by decide +kernel
theorem dX10_drawn_15 : decode cX10_drawn 15 = .ok (.invokestatic 83, 3) := by decide +kernel
theorem dX10_drawn_18 : decode cX10_drawn 18 = .ok (.ifCond .eq 23, 3) := by decide +kernel
theorem dX10_drawn_21 : decode cX10_drawn 21 = .ok (.iload_n 2, 1) := by decide +kernel
theorem dX10_drawn_22 : decode cX10_drawn 22 = .ok (.invokestatic 105, 3) := by decide +kernel
theorem dX10_drawn_25 : decode cX10_drawn 25 = .ok (.ifCond .eq 16, 3) := by decide +kernel
theorem dX10_drawn_28 : decode cX10_drawn 28 = .ok (.aload_n 0, 1) := by decide +kernel
theorem dX10_drawn_29 : decode cX10_drawn 29 = .ok (.getfield 74, 3) := by decide +kernel
theorem dX10_drawn_32 : decode cX10_drawn 32 = .ok (.iconst 4, 1) := by decide +kernel
theorem dX10_drawn_33 : decode cX10_drawn 33 = .ok (.iload_n 1, 1) := by decide +kernel
theorem dX10_drawn_34 : decode cX10_drawn 34 = .ok (.imul, 1) := by decide +kernel
theorem dX10_drawn_35 : decode cX10_drawn 35 = .ok (.iload_n 2, 1) := by decide +kernel
theorem dX10_drawn_36 : decode cX10_drawn 36 = .ok (.iadd, 1) := by decide +kernel
theorem dX10_drawn_37 : decode cX10_drawn 37 = .ok (.iaload, 1) := by decide +kernel
theorem dX10_drawn_38 : decode cX10_drawn 38 = .ok (.goto 4, 3) := by decide +kernel
theorem dX10_drawn_41 : decode cX10_drawn 41 = .ok (.iconst (-1), 1) := by decide +kernel
theorem dX10_drawn_42 : decode cX10_drawn 42 = .ok (.ireturn, 1) := by decide +kernel
theorem dX10_count_0 : decode cX10_count 0 = .ok (.aload_n 0, 1) := by decide +kernel
theorem dX10_count_1 : decode cX10_count 1 = .ok (.iconst 0, 1) := by decide +kernel
theorem dX10_count_2 : decode cX10_count 2 = .ok (.putfield 77, 3) := by decide +kernel
theorem dX10_count_5 : decode cX10_count 5 = .ok (.iload_n 1, 1) := by decide +kernel
theorem dX10_count_6 : decode cX10_count 6 = .ok (.tableswitch 123 0 9 #[54, 61, 68, 75, 82, 87, 94, 101, 108, 115], 54) := by decide +kernel
theorem dX10_count_60 : decode cX10_count 60 = .ok (.aload_n 0, 1) := by decide +kernel
theorem dX10_count_61 : decode cX10_count 61 = .ok (.getfield 13, 3) := by decide +kernel
theorem dX10_count_64 : decode cX10_count 64 = .ok (.iconst 0, 1) := by decide +kernel
theorem dX10_count_65 : decode cX10_count 65 = .ok (.iaload, 1) := by decide +kernel
theorem dX10_count_66 : decode cX10_count 66 = .ok (.ireturn, 1) := by decide +kernel
theorem dX10_count_67 : decode cX10_count 67 = .ok (.aload_n 0, 1) := by decide +kernel
theorem dX10_count_68 : decode cX10_count 68 = .ok (.getfield 13, 3) := by decide +kernel
theorem dX10_count_71 : decode cX10_count 71 = .ok (.iconst 1, 1) := by decide +kernel
theorem dX10_count_72 : decode cX10_count 72 = .ok (.iaload, 1) := by decide +kernel
theorem dX10_count_73 : decode cX10_count 73 = .ok (.ireturn, 1) := by decide +kernel
theorem dX10_count_74 : decode cX10_count 74 = .ok (.aload_n 0, 1) := by decide +kernel
theorem dX10_count_75 : decode cX10_count 75 = .ok (.getfield 13, 3) := by decide +kernel
theorem dX10_count_78 : decode cX10_count 78 = .ok (.iconst 2, 1) := by decide +kernel
theorem dX10_count_79 : decode cX10_count 79 = .ok (.iaload, 1) := by decide +kernel
theorem dX10_count_80 : decode cX10_count 80 = .ok (.ireturn, 1) := by decide +kernel
theorem dX10_count_81 : decode cX10_count 81 = .ok (.aload_n 0, 1) := by decide +kernel
theorem dX10_count_82 : decode cX10_count 82 = .ok (.getfield 13, 3) := by decide +kernel
theorem dX10_count_85 : decode cX10_count 85 = .ok (.iconst 3, 1) := by decide +kernel
theorem dX10_count_86 : decode cX10_count 86 = .ok (.iaload, 1) := by decide +kernel
theorem dX10_count_87 : decode cX10_count 87 = .ok (.ireturn, 1) := by decide +kernel
theorem dX10_count_88 : decode cX10_count 88 = .ok (.aload_n 0, 1) := by decide +kernel
theorem dX10_count_89 : decode cX10_count 89 = .ok (.getfield 142, 3) := by decide +kernel
theorem dX10_count_92 : decode cX10_count 92 = .ok (.ireturn, 1) := by decide +kernel
theorem dX10_count_93 : decode cX10_count 93 = .ok (.aload_n 0, 1) := by decide +kernel
theorem dX10_count_94 : decode cX10_count 94 = .ok (.getfield 7, 3) := by decide +kernel
theorem dX10_count_97 : decode cX10_count 97 = .ok (.iconst 1, 1) := by decide +kernel
theorem dX10_count_98 : decode cX10_count 98 = .ok (.iaload, 1) := by decide +kernel
theorem dX10_count_99 : decode cX10_count 99 = .ok (.ireturn, 1) := by decide +kernel
theorem dX10_count_100 : decode cX10_count 100 = .ok (.aload_n 0, 1) := by decide +kernel
theorem dX10_count_101 : decode cX10_count 101 = .ok (.getfield 7, 3) := by decide +kernel
theorem dX10_count_104 : decode cX10_count 104 = .ok (.iconst 2, 1) := by decide +kernel
theorem dX10_count_105 : decode cX10_count 105 = .ok (.iaload, 1) := by decide +kernel
theorem dX10_count_106 : decode cX10_count 106 = .ok (.ireturn, 1) := by decide +kernel
theorem dX10_count_107 : decode cX10_count 107 = .ok (.aload_n 0, 1) := by decide +kernel
theorem dX10_count_108 : decode cX10_count 108 = .ok (.getfield 7, 3) := by decide +kernel
theorem dX10_count_111 : decode cX10_count 111 = .ok (.iconst 3, 1) := by decide +kernel
theorem dX10_count_112 : decode cX10_count 112 = .ok (.iaload, 1) := by decide +kernel
theorem dX10_count_113 : decode cX10_count 113 = .ok (.ireturn, 1) := by decide +kernel
theorem dX10_count_114 : decode cX10_count 114 = .ok (.aload_n 0, 1) := by decide +kernel
theorem dX10_count_115 : decode cX10_count 115 = .ok (.getfield 7, 3) := by decide +kernel
theorem dX10_count_118 : decode cX10_count 118 = .ok (.iconst 5, 1) := by decide +kernel
theorem dX10_count_119 : decode cX10_count 119 = .ok (.iaload, 1) := by decide +kernel
theorem dX10_count_120 : decode cX10_count 120 = .ok (.ireturn, 1) := by decide +kernel
theorem dX10_count_121 : decode cX10_count 121 = .ok (.aload_n 0, 1) := by decide +kernel
theorem dX10_count_122 : decode cX10_count 122 = .ok (.getfield 7, 3) := by decide +kernel
theorem dX10_count_125 : decode cX10_count 125 = .ok (.bipush 6, 2) := by decide +kernel
theorem dX10_count_127 : decode cX10_count 127 = .ok (.iaload, 1) := by decide +kernel
theorem dX10_count_128 : decode cX10_count 128 = .ok (.ireturn, 1) := by decide +kernel
theorem dX10_count_129 : decode cX10_count 129 = .ok (.iload_n 1, 1) := by decide +kernel
theorem dX10_count_130 : decode cX10_count 130 = .ok (.i2l, 1) := by decide +kernel
theorem dX10_count_131 : decode cX10_count 131 = .ok (.ldc2_w 183, 3) := by decide +kernel
theorem dX10_count_134 : decode cX10_count 134 = .ok (.ldc2_w 414, 3) := by decide +kernel
theorem dX10_count_137 : decode cX10_count 137 = .ok (.invokestatic 83, 3) := by decide +kernel
theorem dX10_count_140 : decode cX10_count 140 = .ok (.ifCond .eq 31, 3) := by decide +kernel
theorem dX10_count_143 : decode cX10_count 143 = .ok (.iload_n 1, 1) := by decide +kernel
theorem dX10_count_144 : decode cX10_count 144 = .ok (.bipush 10, 2) := by decide +kernel
theorem dX10_count_146 : decode cX10_count 146 = .ok (.isub, 1) := by decide +kernel
theorem dX10_count_147 : decode cX10_count 147 = .ok (.aload_n 0, 1) := by decide +kernel
theorem dX10_count_148 : decode cX10_count 148 = .ok (.getfield 13, 3) := by decide +kernel
theorem dX10_count_151 : decode cX10_count 151 = .ok (.iconst 1, 1) := by decide +kernel
theorem dX10_count_152 : decode cX10_count 152 = .ok (.iaload, 1) := by decide +kernel
theorem dX10_count_153 : decode cX10_count 153 = .ok (.if_icmp .ge 18, 3) := by decide +kernel
theorem dX10_count_156 : decode cX10_count 156 = .ok (.aload_n 0, 1) := by decide +kernel
theorem dX10_count_157 : decode cX10_count 157 = .ok (.getfield 13, 3) := by decide +kernel
theorem dX10_count_160 : decode cX10_count 160 = .ok (.bipush 10, 2) := by decide +kernel
theorem dX10_count_162 : decode cX10_count 162 = .ok (.iload_n 1, 1) := by decide +kernel
theorem dX10_count_163 : decode cX10_count 163 = .ok (.iadd, 1) := by decide +kernel
theorem dX10_count_164 : decode cX10_count 164 = .ok (.bipush 10, 2) := by decide +kernel
theorem dX10_count_166 : decode cX10_count 166 = .ok (.isub, 1) := by decide +kernel
theorem dX10_count_167 : decode cX10_count 167 = .ok (.iaload, 1) := by decide +kernel
theorem dX10_count_168 : decode cX10_count 168 = .ok (.goto 4, 3) := by decide +kernel
theorem dX10_count_171 : decode cX10_count 171 = .ok (.iconst (-1), 1) := by decide +kernel
theorem dX10_count_172 : decode cX10_count 172 = .ok (.ireturn, 1) := by decide +kernel
theorem dX10_status_0 : decode cX10_status 0 = .ok (.aload_n 0, 1) := by decide +kernel
theorem dX10_status_1 : decode cX10_status 1 = .ok (.iconst 0, 1) := by decide +kernel
theorem dX10_status_2 : decode cX10_status 2 = .ok (.putfield 77, 3) := by decide +kernel
theorem dX10_status_5 : decode cX10_status 5 = .ok (.aload_n 0, 1) := by decide +kernel
theorem dX10_status_6 : decode cX10_status 6 = .ok (.getfield 80, 3) := by decide +kernel
theorem dX10_status_9 : decode cX10_status 9 = .ok (.ireturn, 1) := by decide +kernel
