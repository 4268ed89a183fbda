theorem dX0_init_0 : decode cX0_init 0 = .ok (.aload_n 0, 1) := by decide +kernel
theorem dX0_init_1 : decode cX0_init 1 = .ok (.invokespecial 1, 3) := by decide +kernel
theorem dX0_init_4 : decode cX0_init 4 = .ok (.return_, 1) := by decide +kernel
theorem dX1_init_0 : decode cX1_init 0 = .ok (.aload_n 0, 1) := by decide +kernel
theorem dX1_init_1 : decode cX1_init 1 = .ok (.invokespecial 3, 3) := by decide +kernel
theorem dX1_init_4 : decode cX1_init 4 = .ok (.aload_n 0, 1) := by decide +kernel
theorem dX1_init_5 : decode cX1_init 5 = .ok (.bipush 6, 2) := by decide +kernel
theorem dX1_init_7 : decode cX1_init 7 = .ok (.newarray .int, 2) := by decide +kernel
theorem dX1_init_9 : decode cX1_init 9 = .ok (.putfield 9, 3) := by decide +kernel
theorem dX1_init_12 : decode cX1_init 12 = .ok (.aload_n 0, 1) := by decide +kernel
theorem dX1_init_13 : decode cX1_init 13 = .ok (.bipush 6, 2) := by decide +kernel
theorem dX1_init_15 : decode cX1_init 15 = .ok (.newarray .int, 2) := by decide +kernel
theorem dX1_init_17 : decode cX1_init 17 = .ok (.putfield 15, 3) := by decide +kernel
theorem dX1_init_20 : decode cX1_init 20 = .ok (.aload_n 0, 1) := by decide +kernel
theorem dX1_init_21 : decode cX1_init 21 = .ok (.bipush 7, 2) := by decide +kernel
theorem dX1_init_23 : decode cX1_init 23 = .ok (.newarray .int, 2) := by decide +kernel
theorem dX1_init_25 : decode cX1_init 25 = .ok (.putfield 18, 3) := by decide +kernel
theorem dX1_init_28 : decode cX1_init 28 = .ok (.aload_n 0, 1) := by decide +kernel
theorem dX1_init_29 : decode cX1_init 29 = .ok (.bipush 7, 2) := by decide +kernel
theorem dX1_init_31 : decode cX1_init 31 = .ok (.newarray .int, 2) := by decide +kernel
theorem dX1_init_33 : decode cX1_init 33 = .ok (.putfield 21, 3) := by decide +kernel
theorem dX1_init_36 : decode cX1_init 36 = .ok (.aload_n 0, 1) := by decide +kernel
theorem dX1_init_37 : decode cX1_init 37 = .ok (.bipush 7, 2) := by decide +kernel
theorem dX1_init_39 : decode cX1_init 39 = .ok (.newarray .int, 2) := by decide +kernel
theorem dX1_init_41 : decode cX1_init 41 = .ok (.putfield 24, 3) := by decide +kernel
theorem dX1_init_44 : decode cX1_init 44 = .ok (.aload_n 0, 1) := by decide +kernel
theorem dX1_init_45 : decode cX1_init 45 = .ok (.bipush 7, 2) := by decide +kernel
theorem dX1_init_47 : decode cX1_init 47 = .ok (.newarray .int, 2) := by decide +kernel
theorem dX1_init_49 : decode cX1_init 49 = .ok (.putfield 27, 3) := by decide +kernel
theorem dX1_init_52 : decode cX1_init 52 = .ok (.return_, 1) := by decide +kernel
theorem dX1_leastPrice_0 : decode cX1_leastPrice 0 = .ok (.aload_n 0, 1) := by decide +kernel
theorem dX1_leastPrice_1 : decode cX1_leastPrice 1 = .ok (.iconst (-1), 1) := by decide +kernel
theorem dX1_leastPrice_2 : decode cX1_leastPrice 2 = .ok (.putfield 30, 3) := by decide +kernel
theorem dX1_leastPrice_5 : decode cX1_leastPrice 5 = .ok (.aload_n 0, 1) := by decide +kernel
theorem dX1_leastPrice_6 : decode cX1_leastPrice 6 = .ok (.aload_n 1, 1) := by decide +kernel
theorem dX1_leastPrice_7 : decode cX1_leastPrice 7 = .ok (.invokevirtual 34, 3) := by decide +kernel
theorem dX1_leastPrice_10 : decode cX1_leastPrice 10 = .ok (.aload_n 0, 1) := by decide +kernel
theorem dX1_leastPrice_11 : decode cX1_leastPrice 11 = .ok (.aload_n 1, 1) := by decide +kernel
theorem dX1_leastPrice_12 : decode cX1_leastPrice 12 = .ok (.iconst 0, 1) := by decide +kernel
theorem dX1_leastPrice_13 : decode cX1_leastPrice 13 = .ok (.iload_n 2, 1) := by decide +kernel
theorem dX1_leastPrice_14 : decode cX1_leastPrice 14 = .ok (.iload_n 2, 1) := by decide +kernel
theorem dX1_leastPrice_15 : decode cX1_leastPrice 15 = .ok (.iload_n 3, 1) := by decide +kernel
theorem dX1_leastPrice_16 : decode cX1_leastPrice 16 = .ok (.imul, 1) := by decide +kernel
theorem dX1_leastPrice_17 : decode cX1_leastPrice 17 = .ok (.iconst 0, 1) := by decide +kernel
theorem dX1_leastPrice_18 : decode cX1_leastPrice 18 = .ok (.invokevirtual 38, 3) := by decide +kernel
theorem dX1_leastPrice_21 : decode cX1_leastPrice 21 = .ok (.aload_n 0, 1) := by decide +kernel
theorem dX1_leastPrice_22 : decode cX1_leastPrice 22 = .ok (.getfield 30, 3) := by decide +kernel
theorem dX1_leastPrice_25 : decode cX1_leastPrice 25 = .ok (.ireturn, 1) := by decide +kernel
theorem dX1_lookBehind_0 : decode cX1_lookBehind 0 = .ok (.aload_n 1, 1) := by decide +kernel
theorem dX1_lookBehind_1 : decode cX1_lookBehind 1 = .ok (.getfield 42, 3) := by decide +kernel
theorem dX1_lookBehind_4 : decode cX1_lookBehind 4 = .ok (.bipush 6, 2) := by decide +kernel
theorem dX1_lookBehind_6 : decode cX1_lookBehind 6 = .ok (.invokestatic 47, 3) := by decide +kernel
theorem dX1_lookBehind_9 : decode cX1_lookBehind 9 = .ok (.istore_n 2, 1) := by decide +kernel
theorem dX1_lookBehind_10 : decode cX1_lookBehind 10 = .ok (.aload_n 0, 1) := by decide +kernel
theorem dX1_lookBehind_11 : decode cX1_lookBehind 11 = .ok (.getfield 18, 3) := by decide +kernel
theorem dX1_lookBehind_14 : decode cX1_lookBehind 14 = .ok (.iload_n 2, 1) := by decide +kernel
theorem dX1_lookBehind_15 : decode cX1_lookBehind 15 = .ok (.iconst 0, 1) := by decide +kernel
theorem dX1_lookBehind_16 : decode cX1_lookBehind 16 = .ok (.iastore, 1) := by decide +kernel
theorem dX1_lookBehind_17 : decode cX1_lookBehind 17 = .ok (.aload_n 0, 1) := by decide +kernel
theorem dX1_lookBehind_18 : decode cX1_lookBehind 18 = .ok (.getfield 21, 3) := by decide +kernel
theorem dX1_lookBehind_21 : decode cX1_lookBehind 21 = .ok (.iload_n 2, 1) := by decide +kernel
theorem dX1_lookBehind_22 : decode cX1_lookBehind 22 = .ok (.bipush 100, 2) := by decide +kernel
theorem dX1_lookBehind_24 : decode cX1_lookBehind 24 = .ok (.iastore, 1) := by decide +kernel
theorem dX1_lookBehind_25 : decode cX1_lookBehind 25 = .ok (.aload_n 0, 1) := by decide +kernel
theorem dX1_lookBehind_26 : decode cX1_lookBehind 26 = .ok (.getfield 24, 3) := by decide +kernel
theorem dX1_lookBehind_29 : decode cX1_lookBehind 29 = .ok (.iload_n 2, 1) := by decide +kernel
theorem dX1_lookBehind_30 : decode cX1_lookBehind 30 = .ok (.iconst 0, 1) := by decide +kernel
theorem dX1_lookBehind_31 : decode cX1_lookBehind 31 = .ok (.iastore, 1) := by decide +kernel
theorem dX1_lookBehind_32 : decode cX1_lookBehind 32 = .ok (.aload_n 0, 1) := by decide +kernel
theorem dX1_lookBehind_33 : decode cX1_lookBehind 33 = .ok (.getfield 27, 3) := by decide +kernel
theorem dX1_lookBehind_36 : decode cX1_lookBehind 36 = .ok (.iload_n 2, 1) := by decide +kernel
theorem dX1_lookBehind_37 : decode cX1_lookBehind 37 = .ok (.bipush 99, 2) := by decide +kernel
theorem dX1_lookBehind_39 : decode cX1_lookBehind 39 = .ok (.iastore, 1) := by decide +kernel
theorem dX1_lookBehind_40 : decode cX1_lookBehind 40 = .ok (.iload_n 2, 1) := by decide +kernel
theorem dX1_lookBehind_41 : decode cX1_lookBehind 41 = .ok (.iconst 1, 1) := by decide +kernel
theorem dX1_lookBehind_42 : decode cX1_lookBehind 42 = .ok (.isub, 1) := by decide +kernel
theorem dX1_lookBehind_43 : decode cX1_lookBehind 43 = .ok (.istore_n 3, 1) := by decide +kernel
theorem dX1_lookBehind_44 : decode cX1_lookBehind 44 = .ok (.iload_n 3, 1) := by decide +kernel
theorem dX1_lookBehind_45 : decode cX1_lookBehind 45 = .ok (.ifCond .lt 111, 3) := by decide +kernel
theorem dX1_lookBehind_48 : decode cX1_lookBehind 48 = .ok (.aload_n 0, 1) := by decide +kernel
theorem dX1_lookBehind_49 : decode cX1_lookBehind 49 = .ok (.getfield 21, 3) := by decide +kernel
theorem dX1_lookBehind_52 : decode cX1_lookBehind 52 = .ok (.iload_n 3, 1) := by decide +kernel
theorem dX1_lookBehind_53 : decode cX1_lookBehind 53 = .ok (.aload_n 0, 1) := by decide +kernel
theorem dX1_lookBehind_54 : decode cX1_lookBehind 54 = .ok (.getfield 21, 3) := by decide +kernel
theorem dX1_lookBehind_57 : decode cX1_lookBehind 57 = .ok (.iload_n 3, 1) := by decide +kernel
theorem dX1_lookBehind_58 : decode cX1_lookBehind 58 = .ok (.iconst 1, 1) := by decide +kernel
theorem dX1_lookBehind_59 : decode cX1_lookBehind 59 = .ok (.iadd, 1) := by decide +kernel
theorem dX1_lookBehind_60 : decode cX1_lookBehind 60 = .ok (.iaload, 1) := by decide +kernel
theorem dX1_lookBehind_61 : decode cX1_lookBehind 61 = .ok (.aload_n 1, 1) := by decide +kernel
theorem dX1_lookBehind_62 : decode cX1_lookBehind 62 = .ok (.getfield 53, 3) := by decide +kernel
theorem dX1_lookBehind_65 : decode cX1_lookBehind 65 = .ok (.iconst 3, 1) := by decide +kernel
theorem dX1_lookBehind_66 : decode cX1_lookBehind 66 = .ok (.iload_n 3, 1) := by decide +kernel
theorem dX1_lookBehind_67 : decode cX1_lookBehind 67 = .ok (.imul, 1) := by decide +kernel
theorem dX1_lookBehind_68 : decode cX1_lookBehind 68 = .ok (.iaload, 1) := by decide +kernel
theorem dX1_lookBehind_69 : decode cX1_lookBehind 69 = .ok (.invokestatic 47, 3) := by decide +kernel
theorem dX1_lookBehind_72 : decode cX1_lookBehind 72 = .ok (.iastore, 1) := by decide +kernel
theorem dX1_lookBehind_73 : decode cX1_lookBehind 73 = .ok (.aload_n 0, 1) := by decide +kernel
theorem dX1_lookBehind_74 : decode cX1_lookBehind 74 = .ok (.getfield 24, 3) := by decide +kernel
theorem dX1_lookBehind_77 : decode cX1_lookBehind 77 = .ok (.iload_n 3, 1) := by decide +kernel
theorem dX1_lookBehind_78 : decode cX1_lookBehind 78 = .ok (.aload_n 0, 1) := by decide +kernel
theorem dX1_lookBehind_79 : decode cX1_lookBehind 79 = .ok (.getfield 24, 3) := by decide +kernel
theorem dX1_lookBehind_82 : decode cX1_lookBehind 82 = .ok (.iload_n 3, 1) := by decide +kernel
theorem dX1_lookBehind_83 : decode cX1_lookBehind 83 = .ok (.iconst 1, 1) := by decide +kernel
theorem dX1_lookBehind_84 : decode cX1_lookBehind 84 = .ok (.iadd, 1) := by decide +kernel
theorem dX1_lookBehind_85 : decode cX1_lookBehind 85 = .ok (.iaload, 1) := by decide +kernel
theorem dX1_lookBehind_86 : decode cX1_lookBehind 86 = .ok (.aload_n 1, 1) := by decide +kernel
theorem dX1_lookBehind_87 : decode cX1_lookBehind 87 = .ok (.getfield 53, 3) := by decide +kernel
theorem dX1_lookBehind_90 : decode cX1_lookBehind 90 = .ok (.iconst 3, 1) := by decide +kernel
theorem dX1_lookBehind_91 : decode cX1_lookBehind 91 = .ok (.iload_n 3, 1) := by decide +kernel
theorem dX1_lookBehind_92 : decode cX1_lookBehind 92 = .ok (.imul, 1) := by decide +kernel
theorem dX1_lookBehind_93 : decode cX1_lookBehind 93 = .ok (.iaload, 1) := by decide +kernel
theorem dX1_lookBehind_94 : decode cX1_lookBehind 94 = .ok (.invokestatic 56, 3) := by decide +kernel
theorem dX1_lookBehind_97 : decode cX1_lookBehind 97 = .ok (.iastore, 1) := by decide +kernel
theorem dX1_lookBehind_98 : decode cX1_lookBehind 98 = .ok (.aload_n 0, 1) := by decide +kernel
theorem dX1_lookBehind_99 : decode cX1_lookBehind 99 = .ok (.getfield 27, 3) := by decide +kernel
theorem dX1_lookBehind_102 : decode cX1_lookBehind 102 = .ok (.iload_n 3, 1) := by decide +kernel
theorem dX1_lookBehind_103 : decode cX1_lookBehind 103 = .ok (.aload_n 0, 1) := by decide +kernel
theorem dX1_lookBehind_104 : decode cX1_lookBehind 104 = .ok (.getfield 27, 3) := by decide +kernel
theorem dX1_lookBehind_107 : decode cX1_lookBehind 107 = .ok (.iload_n 3, 1) := by decide +kernel
theorem dX1_lookBehind_108 : decode cX1_lookBehind 108 = .ok (.iconst 1, 1) := by decide +kernel
theorem dX1_lookBehind_109 : decode cX1_lookBehind 109 = .ok (.iadd, 1) := by decide +kernel
theorem dX1_lookBehind_110 : decode cX1_lookBehind 110 = .ok (.iaload, 1) := by decide +kernel
theorem dX1_lookBehind_111 : decode cX1_lookBehind 111 = .ok (.aload_n 1, 1) := by decide +kernel
theorem dX1_lookBehind_112 : decode cX1_lookBehind 112 = .ok (.getfield 53, 3) := by decide +kernel
theorem dX1_lookBehind_115 : decode cX1_lookBehind 115 = .ok (.iconst 3, 1) := by decide +kernel
theorem dX1_lookBehind_116 : decode cX1_lookBehind 116 = .ok (.iload_n 3, 1) := by decide +kernel
theorem dX1_lookBehind_117 : decode cX1_lookBehind 117 = .ok (.imul, 1) := by decide +kernel
theorem dX1_lookBehind_118 : decode cX1_lookBehind 118 = .ok (.iconst 1, 1) := by decide +kernel
theorem dX1_lookBehind_119 : decode cX1_lookBehind 119 = .ok (.iadd, 1) := by decide +kernel
theorem dX1_lookBehind_120 : decode cX1_lookBehind 120 = .ok (.iaload, 1) := by decide +kernel
theorem dX1_lookBehind_121 : decode cX1_lookBehind 121 = .ok (.invokestatic 47, 3) := by decide +kernel
theorem dX1_lookBehind_124 : decode cX1_lookBehind 124 = .ok (.iastore, 1) := by decide +kernel
theorem dX1_lookBehind_125 : decode cX1_lookBehind 125 = .ok (.aload_n 0, 1) := by decide +kernel
theorem dX1_lookBehind_126 : decode cX1_lookBehind 126 = .ok (.getfield 18, 3) := by decide +kernel
theorem dX1_lookBehind_129 : decode cX1_lookBehind 129 = .ok (.iload_n 3, 1) := by decide +kernel
theorem dX1_lookBehind_130 : decode cX1_lookBehind 130 = .ok (.aload_n 0, 1) := by decide +kernel
theorem dX1_lookBehind_131 : decode cX1_lookBehind 131 = .ok (.getfield 18, 3) := by decide +kernel
theorem dX1_lookBehind_134 : decode cX1_lookBehind 134 = .ok (.iload_n 3, 1) := by decide +kernel
theorem dX1_lookBehind_135 : decode cX1_lookBehind 135 = .ok (.iconst 1, 1) := by decide +kernel
theorem dX1_lookBehind_136 : decode cX1_lookBehind 136 = .ok (.iadd, 1) := by decide +kernel
theorem dX1_lookBehind_137 : decode cX1_lookBehind 137 = .ok (.iaload, 1) := by decide +kernel
theorem dX1_lookBehind_138 : decode cX1_lookBehind 138 = .ok (.aload_n 1, 1) := by decide +kernel
theorem dX1_lookBehind_139 : decode cX1_lookBehind 139 = .ok (.getfield 53, 3) := by decide +kernel
theorem dX1_lookBehind_142 : decode cX1_lookBehind 142 = .ok (.iconst 3, 1) := by decide +kernel
theorem dX1_lookBehind_143 : decode cX1_lookBehind 143 = .ok (.iload_n 3, 1) := by decide +kernel
theorem dX1_lookBehind_144 : decode cX1_lookBehind 144 = .ok (.imul, 1) := by decide +kernel
theorem dX1_lookBehind_145 : decode cX1_lookBehind 145 = .ok (.iconst 2, 1) := by decide +kernel
theorem dX1_lookBehind_146 : decode cX1_lookBehind 146 = .ok (.iadd, 1) := by decide +kernel
theorem dX1_lookBehind_147 : decode cX1_lookBehind 147 = .ok (.iaload, 1) := by decide +kernel
theorem dX1_lookBehind_148 : decode cX1_lookBehind 148 = .ok (.iadd, 1) := by decide +kernel
theorem dX1_lookBehind_149 : decode cX1_lookBehind 149 = .ok (.iastore, 1) := by decide +kernel
theorem dX1_lookBehind_150 : decode cX1_lookBehind 150 = .ok (.iinc 3 (-1), 3) := by decide +kernel
theorem dX1_lookBehind_153 : decode cX1_lookBehind 153 = .ok (.goto (-109), 3) := by decide +kernel
theorem dX1_lookBehind_156 : decode cX1_lookBehind 156 = .ok (.return_, 1) := by decide +kernel
theorem dX1_take_0 : decode cX1_take 0 = .ok (.aload_n 0, 1) := by decide +kernel
theorem dX1_take_1 : decode cX1_take 1 = .ok (.iload_n 2, 1) := by decide +kernel
theorem dX1_take_2 : decode cX1_take 2 = .ok (.iload_n 3, 1) := by decide +kernel
theorem dX1_take_3 : decode cX1_take 3 = .ok (.iload 4, 2) := by decide +kernel
theorem dX1_take_5 : decode cX1_take 5 = .ok (.invokevirtual 59, 3) := by decide +kernel
theorem dX1_take_8 : decode cX1_take 8 = .ok (.ifCond .eq 14, 3) := by decide +kernel
theorem dX1_take_11 : decode cX1_take 11 = .ok (.aload_n 0, 1) := by decide +kernel
theorem dX1_take_12 : decode cX1_take 12 = .ok (.iload_n 2, 1) := by decide +kernel
theorem dX1_take_13 : decode cX1_take 13 = .ok (.iload_n 3, 1) := by decide +kernel
theorem dX1_take_14 : decode cX1_take 14 = .ok (.iload 5, 2) := by decide +kernel
theorem dX1_take_16 : decode cX1_take 16 = .ok (.invokevirtual 63, 3) := by decide +kernel
theorem dX1_take_19 : decode cX1_take 19 = .ok (.ifCond .ne 4, 3) := by decide +kernel
theorem dX1_take_22 : decode cX1_take 22 = .ok (.return_, 1) := by decide +kernel
theorem dX1_take_23 : decode cX1_take 23 = .ok (.iload_n 2, 1) := by decide +kernel
theorem dX1_take_24 : decode cX1_take 24 = .ok (.aload_n 1, 1) := by decide +kernel
theorem dX1_take_25 : decode cX1_take 25 = .ok (.getfield 42, 3) := by decide +kernel
theorem dX1_take_28 : decode cX1_take 28 = .ok (.if_icmp .ge 9, 3) := by decide +kernel
theorem dX1_take_31 : decode cX1_take 31 = .ok (.iload_n 2, 1) := by decide +kernel
theorem dX1_take_32 : decode cX1_take 32 = .ok (.bipush 6, 2) := by decide +kernel
theorem dX1_take_34 : decode cX1_take 34 = .ok (.if_icmp .lt 25, 3) := by decide +kernel
theorem dX1_take_37 : decode cX1_take 37 = .ok (.aload_n 0, 1) := by decide +kernel
theorem dX1_take_38 : decode cX1_take 38 = .ok (.iload 5, 2) := by decide +kernel
theorem dX1_take_40 : decode cX1_take 40 = .ok (.putfield 30, 3) := by decide +kernel
theorem dX1_take_43 : decode cX1_take 43 = .ok (.aload_n 0, 1) := by decide +kernel
theorem dX1_take_44 : decode cX1_take 44 = .ok (.getfield 9, 3) := by decide +kernel
theorem dX1_take_47 : decode cX1_take 47 = .ok (.iconst 0, 1) := by decide +kernel
theorem dX1_take_48 : decode cX1_take 48 = .ok (.aload_n 0, 1) := by decide +kernel
theorem dX1_take_49 : decode cX1_take 49 = .ok (.getfield 15, 3) := by decide +kernel
theorem dX1_take_52 : decode cX1_take 52 = .ok (.iconst 0, 1) := by decide +kernel
theorem dX1_take_53 : decode cX1_take 53 = .ok (.bipush 6, 2) := by decide +kernel
theorem dX1_take_55 : decode cX1_take 55 = .ok (.invokestatic 66, 3) := by decide +kernel
theorem dX1_take_58 : decode cX1_take 58 = .ok (.return_, 1) := by decide +kernel
theorem dX1_take_59 : decode cX1_take 59 = .ok (.aload_n 1, 1) := by decide +kernel
theorem dX1_take_60 : decode cX1_take 60 = .ok (.getfield 53, 3) := by decide +kernel
theorem dX1_take_63 : decode cX1_take 63 = .ok (.iconst 3, 1) := by decide +kernel
theorem dX1_take_64 : decode cX1_take 64 = .ok (.iload_n 2, 1) := by decide +kernel
theorem dX1_take_65 : decode cX1_take 65 = .ok (.imul, 1) := by decide +kernel
theorem dX1_take_66 : decode cX1_take 66 = .ok (.iaload, 1) := by decide +kernel
theorem dX1_take_67 : decode cX1_take 67 = .ok (.istore 6, 2) := by decide +kernel
theorem dX1_take_69 : decode cX1_take 69 = .ok (.aload_n 1, 1) := by decide +kernel
theorem dX1_take_70 : decode cX1_take 70 = .ok (.getfield 53, 3) := by decide +kernel
theorem dX1_take_73 : decode cX1_take 73 = .ok (.iconst 3, 1) := by decide +kernel
theorem dX1_take_74 : decode cX1_take 74 = .ok (.iload_n 2, 1) := by decide +kernel
theorem dX1_take_75 : decode cX1_take 75 = .ok (.imul, 1) := by decide +kernel
theorem dX1_take_76 : decode cX1_take 76 = .ok (.iconst 1, 1) := by decide +kernel
theorem dX1_take_77 : decode cX1_take 77 = .ok (.iadd, 1) := by decide +kernel
theorem dX1_take_78 : decode cX1_take 78 = .ok (.iaload, 1) := by decide +kernel
theorem dX1_take_79 : decode cX1_take 79 = .ok (.istore 7, 2) := by decide +kernel
theorem dX1_take_81 : decode cX1_take 81 = .ok (.iload_n 3, 1) := by decide +kernel
theorem dX1_take_82 : decode cX1_take 82 = .ok (.aload_n 1, 1) := by decide +kernel
theorem dX1_take_83 : decode cX1_take 83 = .ok (.getfield 53, 3) := by decide +kernel
theorem dX1_take_86 : decode cX1_take 86 = .ok (.iconst 3, 1) := by decide +kernel
theorem dX1_take_87 : decode cX1_take 87 = .ok (.iload_n 2, 1) := by decide +kernel
theorem dX1_take_88 : decode cX1_take 88 = .ok (.imul, 1) := by decide +kernel
theorem dX1_take_89 : decode cX1_take 89 = .ok (.iconst 2, 1) := by decide +kernel
theorem dX1_take_90 : decode cX1_take 90 = .ok (.iadd, 1) := by decide +kernel
theorem dX1_take_91 : decode cX1_take 91 = .ok (.iaload, 1) := by decide +kernel
theorem dX1_take_92 : decode cX1_take 92 = .ok (.invokestatic 47, 3) := by decide +kernel
theorem dX1_take_95 : decode cX1_take 95 = .ok (.istore 8, 2) := by decide +kernel
theorem dX1_take_97 : decode cX1_take 97 = .ok (.iconst 0, 1) := by decide +kernel
theorem dX1_take_98 : decode cX1_take 98 = .ok (.istore 9, 2) := by decide +kernel
theorem dX1_take_100 : decode cX1_take 100 = .ok (.iload 9, 2) := by decide +kernel
theorem dX1_take_102 : decode cX1_take 102 = .ok (.iload 8, 2) := by decide +kernel
theorem dX1_take_104 : decode cX1_take 104 = .ok (.if_icmp .gt 45, 3) := by decide +kernel
theorem dX1_take_107 : decode cX1_take 107 = .ok (.aload_n 0, 1) := by decide +kernel
theorem dX1_take_108 : decode cX1_take 108 = .ok (.getfield 9, 3) := by decide +kernel
theorem dX1_take_111 : decode cX1_take 111 = .ok (.iload_n 2, 1) := by decide +kernel
theorem dX1_take_112 : decode cX1_take 112 = .ok (.iload 9, 2) := by decide +kernel
theorem dX1_take_114 : decode cX1_take 114 = .ok (.iastore, 1) := by decide +kernel
theorem dX1_take_115 : decode cX1_take 115 = .ok (.aload_n 0, 1) := by decide +kernel
theorem dX1_take_116 : decode cX1_take 116 = .ok (.aload_n 1, 1) := by decide +kernel
theorem dX1_take_117 : decode cX1_take 117 = .ok (.iload_n 2, 1) := by decide +kernel
theorem dX1_take_118 : decode cX1_take 118 = .ok (.iconst 1, 1) := by decide +kernel
theorem dX1_take_119 : decode cX1_take 119 = .ok (.iadd, 1) := by decide +kernel
theorem dX1_take_120 : decode cX1_take 120 = .ok (.iload_n 3, 1) := by decide +kernel
theorem dX1_take_121 : decode cX1_take 121 = .ok (.iload 9, 2) := by decide +kernel
theorem dX1_take_123 : decode cX1_take 123 = .ok (.isub, 1) := by decide +kernel
theorem dX1_take_124 : decode cX1_take 124 = .ok (.iload 4, 2) := by decide +kernel
theorem dX1_take_126 : decode cX1_take 126 = .ok (.iload 9, 2) := by decide +kernel
theorem dX1_take_128 : decode cX1_take 128 = .ok (.iload 6, 2) := by decide +kernel
theorem dX1_take_130 : decode cX1_take 130 = .ok (.imul, 1) := by decide +kernel
theorem dX1_take_131 : decode cX1_take 131 = .ok (.isub, 1) := by decide +kernel
theorem dX1_take_132 : decode cX1_take 132 = .ok (.iload 5, 2) := by decide +kernel
theorem dX1_take_134 : decode cX1_take 134 = .ok (.iload 9, 2) := by decide +kernel
theorem dX1_take_136 : decode cX1_take 136 = .ok (.iload 7, 2) := by decide +kernel
theorem dX1_take_138 : decode cX1_take 138 = .ok (.imul, 1) := by decide +kernel
theorem dX1_take_139 : decode cX1_take 139 = .ok (.iadd, 1) := by decide +kernel
theorem dX1_take_140 : decode cX1_take 140 = .ok (.invokevirtual 38, 3) := by decide +kernel
theorem dX1_take_143 : decode cX1_take 143 = .ok (.iinc 9 1, 3) := by decide +kernel
theorem dX1_take_146 : decode cX1_take 146 = .ok (.goto (-46), 3) := by decide +kernel
theorem dX1_take_149 : decode cX1_take 149 = .ok (.return_, 1) := by decide +kernel
theorem dX1_canBe_0 : decode cX1_canBe 0 = .ok (.iload_n 2, 1) := by decide +kernel
theorem dX1_canBe_1 : decode cX1_canBe 1 = .ok (.aload_n 0, 1) := by decide +kernel
theorem dX1_canBe_2 : decode cX1_canBe 2 = .ok (.getfield 21, 3) := by decide +kernel
theorem dX1_canBe_5 : decode cX1_canBe 5 = .ok (.iload_n 1, 1) := by decide +kernel
theorem dX1_canBe_6 : decode cX1_canBe 6 = .ok (.iaload, 1) := by decide +kernel
theorem dX1_canBe_7 : decode cX1_canBe 7 = .ok (.imul, 1) := by decide +kernel
theorem dX1_canBe_8 : decode cX1_canBe 8 = .ok (.istore 4, 2) := by decide +kernel
theorem dX1_canBe_10 : decode cX1_canBe 10 = .ok (.iload_n 2, 1) := by decide +kernel
theorem dX1_canBe_11 : decode cX1_canBe 11 = .ok (.aload_n 0, 1) := by decide +kernel
theorem dX1_canBe_12 : decode cX1_canBe 12 = .ok (.getfield 24, 3) := by decide +kernel
theorem dX1_canBe_15 : decode cX1_canBe 15 = .ok (.iload_n 1, 1) := by decide +kernel
theorem dX1_canBe_16 : decode cX1_canBe 16 = .ok (.iaload, 1) := by decide +kernel
theorem dX1_canBe_17 : decode cX1_canBe 17 = .ok (.imul, 1) := by decide +kernel
theorem dX1_canBe_18 : decode cX1_canBe 18 = .ok (.istore 5, 2) := by decide +kernel
theorem dX1_canBe_20 : decode cX1_canBe 20 = .ok (.iload_n 2, 1) := by decide +kernel
theorem dX1_canBe_21 : decode cX1_canBe 21 = .ok (.aload_n 0, 1) := by decide +kernel
theorem dX1_canBe_22 : decode cX1_canBe 22 = .ok (.getfield 18, 3) := by decide +kernel
theorem dX1_canBe_25 : decode cX1_canBe 25 = .ok (.iload_n 1, 1) := by decide +kernel
theorem dX1_canBe_26 : decode cX1_canBe 26 = .ok (.iaload, 1) := by decide +kernel
theorem dX1_canBe_27 : decode cX1_canBe 27 = .ok (.if_icmp .gt 18, 3) := by decide +kernel
theorem dX1_canBe_30 : decode cX1_canBe 30 = .ok (.iload_n 3, 1) := by decide +kernel
theorem dX1_canBe_31 : decode cX1_canBe 31 = .ok (.iload 4, 2) := by decide +kernel
theorem dX1_canBe_33 : decode cX1_canBe 33 = .ok (.iload 5, 2) := by decide +kernel
theorem dX1_canBe_35 : decode cX1_canBe 35 = .ok (.invokestatic 72, 3) := by decide +kernel
theorem dX1_canBe_38 : decode cX1_canBe 38 = .ok (.ifCond .eq 7, 3) := by decide +kernel
theorem dX1_canBe_41 : decode cX1_canBe 41 = .ok (.iconst 1, 1) := by decide +kernel
theorem dX1_canBe_42 : decode cX1_canBe 42 = .ok (.goto 4, 3) := by decide +kernel
theorem dX1_canBe_45 : decode cX1_canBe 45 = .ok (.iconst 0, 1) := by decide +kernel
theorem dX1_canBe_46 : decode cX1_canBe 46 = .ok (.ireturn, 1) := by decide +kernel
theorem dX1_canBeCheaper_0 : decode cX1_canBeCheaper 0 = .ok (.aload_n 0, 1) := by decide +kernel
theorem dX1_canBeCheaper_1 : decode cX1_canBeCheaper 1 = .ok (.getfield 30, 3) := by decide +kernel
theorem dX1_canBeCheaper_4 : decode cX1_canBeCheaper 4 = .ok (.iconst (-1), 1) := by decide +kernel
theorem dX1_canBeCheaper_5 : decode cX1_canBeCheaper 5 = .ok (.if_icmp .eq 20, 3) := by decide +kernel
theorem dX1_canBeCheaper_8 : decode cX1_canBeCheaper 8 = .ok (.iload_n 3, 1) := by decide +kernel
theorem dX1_canBeCheaper_9 : decode cX1_canBeCheaper 9 = .ok (.iload_n 2, 1) := by decide +kernel
theorem dX1_canBeCheaper_10 : decode cX1_canBeCheaper 10 = .ok (.aload_n 0, 1) := by decide +kernel
theorem dX1_canBeCheaper_11 : decode cX1_canBeCheaper 11 = .ok (.getfield 27, 3) := by decide +kernel
theorem dX1_canBeCheaper_14 : decode cX1_canBeCheaper 14 = .ok (.iload_n 1, 1) := by decide +kernel
theorem dX1_canBeCheaper_15 : decode cX1_canBeCheaper 15 = .ok (.iaload, 1) := by decide +kernel
theorem dX1_canBeCheaper_16 : decode cX1_canBeCheaper 16 = .ok (.imul, 1) := by decide +kernel
theorem dX1_canBeCheaper_17 : decode cX1_canBeCheaper 17 = .ok (.iadd, 1) := by decide +kernel
theorem dX1_canBeCheaper_18 : decode cX1_canBeCheaper 18 = .ok (.aload_n 0, 1) := by decide +kernel
theorem dX1_canBeCheaper_19 : decode cX1_canBeCheaper 19 = .ok (.getfield 30, 3) := by decide +kernel
theorem dX1_canBeCheaper_22 : decode cX1_canBeCheaper 22 = .ok (.if_icmp .ge 7, 3) := by decide +kernel
theorem dX1_canBeCheaper_25 : decode cX1_canBeCheaper 25 = .ok (.iconst 1, 1) := by decide +kernel
theorem dX1_canBeCheaper_26 : decode cX1_canBeCheaper 26 = .ok (.goto 4, 3) := by decide +kernel
theorem dX1_canBeCheaper_29 : decode cX1_canBeCheaper 29 = .ok (.iconst 0, 1) := by decide +kernel
theorem dX1_canBeCheaper_30 : decode cX1_canBeCheaper 30 = .ok (.ireturn, 1) := by decide +kernel
theorem dX2_init_0 : decode cX2_init 0 = .ok (.aload_n 0, 1) := by decide +kernel
theorem dX2_init_1 : decode cX2_init 1 = .ok (.invokespecial 3, 3) := by decide +kernel
theorem dX2_init_4 : decode cX2_init 4 = .ok (.aload_n 0, 1) := by decide +kernel
theorem dX2_init_5 : decode cX2_init 5 = .ok (.new 9, 3) := by decide +kernel
theorem dX2_init_8 : decode cX2_init 8 = .ok (.dup, 1) := by decide +kernel
theorem dX2_init_9 : decode cX2_init 9 = .ok (.invokespecial 11, 3) := by decide +kernel
theorem dX2_init_12 : decode cX2_init 12 = .ok (.putfield 12, 3) := by decide +kernel
theorem dX2_init_15 : decode cX2_init 15 = .ok (.aload_n 0, 1) := by decide +kernel
theorem dX2_init_16 : decode cX2_init 16 = .ok (.new 18, 3) := by decide +kernel
theorem dX2_init_19 : decode cX2_init 19 = .ok (.dup, 1) := by decide +kernel
theorem dX2_init_20 : decode cX2_init 20 = .ok (.invokespecial 20, 3) := by decide +kernel
theorem dX2_init_23 : decode cX2_init 23 = .ok (.putfield 21, 3) := by decide +kernel
theorem dX2_init_26 : decode cX2_init 26 = .ok (.return_, 1) := by decide +kernel
theorem dX2_readText_0 : decode cX2_readText 0 = .ok (.aload_n 0, 1) := by decide +kernel
theorem dX2_readText_1 : decode cX2_readText 1 = .ok (.iconst 0, 1) := by decide +kernel
theorem dX2_readText_2 : decode cX2_readText 2 = .ok (.putfield 25, 3) := by decide +kernel
theorem dX2_readText_5 : decode cX2_readText 5 = .ok (.aload_n 0, 1) := by decide +kernel
theorem dX2_readText_6 : decode cX2_readText 6 = .ok (.getfield 21, 3) := by decide +kernel
theorem dX2_readText_9 : decode cX2_readText 9 = .ok (.iconst 0, 1) := by decide +kernel
theorem dX2_readText_10 : decode cX2_readText 10 = .ok (.putfield 29, 3) := by decide +kernel
theorem dX2_readText_13 : decode cX2_readText 13 = .ok (.aload_n 0, 1) := by decide +kernel
theorem dX2_readText_14 : decode cX2_readText 14 = .ok (.getfield 12, 3) := by decide +kernel
theorem dX2_readText_17 : decode cX2_readText 17 = .ok (.invokevirtual 32, 3) := by decide +kernel
theorem dX2_readText_20 : decode cX2_readText 20 = .ok (.iconst 0, 1) := by decide +kernel
theorem dX2_readText_21 : decode cX2_readText 21 = .ok (.istore_n 1, 1) := by decide +kernel
theorem dX2_readText_22 : decode cX2_readText 22 = .ok (.iload_n 1, 1) := by decide +kernel
theorem dX2_readText_23 : decode cX2_readText 23 = .ok (.bipush 12, 2) := by decide +kernel
theorem dX2_readText_25 : decode cX2_readText 25 = .ok (.if_icmp .ge 63, 3) := by decide +kernel
theorem dX2_readText_28 : decode cX2_readText 28 = .ok (.aload_n 0, 1) := by decide +kernel
theorem dX2_readText_29 : decode cX2_readText 29 = .ok (.getfield 21, 3) := by decide +kernel
theorem dX2_readText_32 : decode cX2_readText 32 = .ok (.iload_n 1, 1) := by decide +kernel
theorem dX2_readText_33 : decode cX2_readText 33 = .ok (.iconst 1, 1) := by decide +kernel
theorem dX2_readText_34 : decode cX2_readText 34 = .ok (.iadd, 1) := by decide +kernel
theorem dX2_readText_35 : decode cX2_readText 35 = .ok (.putfield 35, 3) := by decide +kernel
theorem dX2_readText_38 : decode cX2_readText 38 = .ok (.aload_n 0, 1) := by decide +kernel
theorem dX2_readText_39 : decode cX2_readText 39 = .ok (.aload_n 0, 1) := by decide +kernel
theorem dX2_readText_40 : decode cX2_readText 40 = .ok (.getfield 21, 3) := by decide +kernel
theorem dX2_readText_43 : decode cX2_readText 43 = .ok (.getfield 38, 3) := by decide +kernel
theorem dX2_readText_46 : decode cX2_readText 46 = .ok (.iload_n 1, 1) := by decide +kernel
theorem dX2_readText_47 : decode cX2_readText 47 = .ok (.aaload, 1) := by decide +kernel
theorem dX2_readText_48 : decode cX2_readText 48 = .ok (.invokevirtual 42, 3) := by decide +kernel
theorem dX2_readText_51 : decode cX2_readText 51 = .ok (.ifCond .ne 5, 3) := by decide +kernel
theorem dX2_readText_54 : decode cX2_readText 54 = .ok (.iconst 0, 1) := by decide +kernel
theorem dX2_readText_55 : decode cX2_readText 55 = .ok (.ireturn, 1) := by decide +kernel
theorem dX2_readText_56 : decode cX2_readText 56 = .ok (.aload_n 0, 1) := by decide +kernel
theorem dX2_readText_57 : decode cX2_readText 57 = .ok (.getfield 12, 3) := by decide +kernel
theorem dX2_readText_60 : decode cX2_readText 60 = .ok (.invokevirtual 46, 3) := by decide +kernel
theorem dX2_readText_63 : decode cX2_readText 63 = .ok (.ifCond .eq 5, 3) := by decide +kernel
theorem dX2_readText_66 : decode cX2_readText 66 = .ok (.iconst 1, 1) := by decide +kernel
theorem dX2_readText_67 : decode cX2_readText 67 = .ok (.ireturn, 1) := by decide +kernel
theorem dX2_readText_68 : decode cX2_readText 68 = .ok (.aload_n 0, 1) := by decide +kernel
theorem dX2_readText_69 : decode cX2_readText 69 = .ok (.getfield 12, 3) := by decide +kernel
theorem dX2_readText_72 : decode cX2_readText 72 = .ok (.bipush 59, 2) := by decide +kernel
theorem dX2_readText_74 : decode cX2_readText 74 = .ok (.invokevirtual 50, 3) := by decide +kernel
theorem dX2_readText_77 : decode cX2_readText 77 = .ok (.ifCond .ne 5, 3) := by decide +kernel
theorem dX2_readText_80 : decode cX2_readText 80 = .ok (.iconst 0, 1) := by decide +kernel
theorem dX2_readText_81 : decode cX2_readText 81 = .ok (.ireturn, 1) := by decide +kernel
theorem dX2_readText_82 : decode cX2_readText 82 = .ok (.iinc 1 1, 3) := by decide +kernel
theorem dX2_readText_85 : decode cX2_readText 85 = .ok (.goto (-63), 3) := by decide +kernel
theorem dX2_readText_88 : decode cX2_readText 88 = .ok (.iconst 0, 1) := by decide +kernel
theorem dX2_readText_89 : decode cX2_readText 89 = .ok (.ireturn, 1) := by decide +kernel
theorem dX2_readClause_0 : decode cX2_readClause 0 = .ok (.aload_n 0, 1) := by decide +kernel
theorem dX2_readClause_1 : decode cX2_readClause 1 = .ok (.aload_n 1, 1) := by decide +kernel
theorem dX2_readClause_2 : decode cX2_readClause 2 = .ok (.invokevirtual 54, 3) := by decide +kernel
theorem dX2_readClause_5 : decode cX2_readClause 5 = .ok (.ifCond .eq 23, 3) := by decide +kernel
theorem dX2_readClause_8 : decode cX2_readClause 8 = .ok (.aload_n 0, 1) := by decide +kernel
theorem dX2_readClause_9 : decode cX2_readClause 9 = .ok (.aload_n 1, 1) := by decide +kernel
theorem dX2_readClause_10 : decode cX2_readClause 10 = .ok (.invokevirtual 57, 3) := by decide +kernel
theorem dX2_readClause_13 : decode cX2_readClause 13 = .ok (.ifCond .eq 15, 3) := by decide +kernel
theorem dX2_readClause_16 : decode cX2_readClause 16 = .ok (.aload_n 0, 1) := by decide +kernel
theorem dX2_readClause_17 : decode cX2_readClause 17 = .ok (.aload_n 1, 1) := by decide +kernel
theorem dX2_readClause_18 : decode cX2_readClause 18 = .ok (.invokevirtual 60, 3) := by decide +kernel
theorem dX2_readClause_21 : decode cX2_readClause 21 = .ok (.ifCond .eq 7, 3) := by decide +kernel
theorem dX2_readClause_24 : decode cX2_readClause 24 = .ok (.iconst 1, 1) := by decide +kernel
theorem dX2_readClause_25 : decode cX2_readClause 25 = .ok (.goto 4, 3) := by decide +kernel
theorem dX2_readClause_28 : decode cX2_readClause 28 = .ok (.iconst 0, 1) := by decide +kernel
theorem dX2_readClause_29 : decode cX2_readClause 29 = .ok (.ireturn, 1) := by decide +kernel
theorem dX2_readMove_0 : decode cX2_readMove 0 = .ok (.aload_n 0, 1) := by decide +kernel
theorem dX2_readMove_1 : decode cX2_readMove 1 = .ok (.getfield 12, 3) := by decide +kernel
theorem dX2_readMove_4 : decode cX2_readMove 4 = .ok (.ldc 63, 2) := by decide +kernel
theorem dX2_readMove_6 : decode cX2_readMove 6 = .ok (.invokevirtual 65, 3) := by decide +kernel
theorem dX2_readMove_9 : decode cX2_readMove 9 = .ok (.ifCond .eq 38, 3) := by decide +kernel
theorem dX2_readMove_12 : decode cX2_readMove 12 = .ok (.aload_n 1, 1) := by decide +kernel
theorem dX2_readMove_13 : decode cX2_readMove 13 = .ok (.iconst 0, 1) := by decide +kernel
theorem dX2_readMove_14 : decode cX2_readMove 14 = .ok (.putfield 69, 3) := by decide +kernel
theorem dX2_readMove_17 : decode cX2_readMove 17 = .ok (.aload_n 0, 1) := by decide +kernel
theorem dX2_readMove_18 : decode cX2_readMove 18 = .ok (.aload_n 1, 1) := by decide +kernel
theorem dX2_readMove_19 : decode cX2_readMove 19 = .ok (.invokevirtual 74, 3) := by decide +kernel
theorem dX2_readMove_22 : decode cX2_readMove 22 = .ok (.ifCond .eq 23, 3) := by decide +kernel
theorem dX2_readMove_25 : decode cX2_readMove 25 = .ok (.aload_n 0, 1) := by decide +kernel
theorem dX2_readMove_26 : decode cX2_readMove 26 = .ok (.aload_n 1, 1) := by decide +kernel
theorem dX2_readMove_27 : decode cX2_readMove 27 = .ok (.invokevirtual 77, 3) := by decide +kernel
theorem dX2_readMove_30 : decode cX2_readMove 30 = .ok (.ifCond .eq 15, 3) := by decide +kernel
theorem dX2_readMove_33 : decode cX2_readMove 33 = .ok (.aload_n 0, 1) := by decide +kernel
theorem dX2_readMove_34 : decode cX2_readMove 34 = .ok (.aload_n 1, 1) := by decide +kernel
theorem dX2_readMove_35 : decode cX2_readMove 35 = .ok (.invokevirtual 80, 3) := by decide +kernel
theorem dX2_readMove_38 : decode cX2_readMove 38 = .ok (.ifCond .eq 7, 3) := by decide +kernel
theorem dX2_readMove_41 : decode cX2_readMove 41 = .ok (.iconst 1, 1) := by decide +kernel
theorem dX2_readMove_42 : decode cX2_readMove 42 = .ok (.goto 4, 3) := by decide +kernel
theorem dX2_readMove_45 : decode cX2_readMove 45 = .ok (.iconst 0, 1) := by decide +kernel
theorem dX2_readMove_46 : decode cX2_readMove 46 = .ok (.ireturn, 1) := by decide +kernel
theorem dX2_readMove_47 : decode cX2_readMove 47 = .ok (.aload_n 0, 1) := by decide +kernel
theorem dX2_readMove_48 : decode cX2_readMove 48 = .ok (.getfield 12, 3) := by decide +kernel
theorem dX2_readMove_51 : decode cX2_readMove 51 = .ok (.ldc 83, 2) := by decide +kernel
theorem dX2_readMove_53 : decode cX2_readMove 53 = .ok (.invokevirtual 65, 3) := by decide +kernel
theorem dX2_readMove_56 : decode cX2_readMove 56 = .ok (.ifCond .eq 30, 3) := by decide +kernel
theorem dX2_readMove_59 : decode cX2_readMove 59 = .ok (.aload_n 1, 1) := by decide +kernel
theorem dX2_readMove_60 : decode cX2_readMove 60 = .ok (.iconst 1, 1) := by decide +kernel
theorem dX2_readMove_61 : decode cX2_readMove 61 = .ok (.putfield 69, 3) := by decide +kernel
theorem dX2_readMove_64 : decode cX2_readMove 64 = .ok (.aload_n 0, 1) := by decide +kernel
theorem dX2_readMove_65 : decode cX2_readMove 65 = .ok (.aload_n 1, 1) := by decide +kernel
theorem dX2_readMove_66 : decode cX2_readMove 66 = .ok (.invokevirtual 74, 3) := by decide +kernel
theorem dX2_readMove_69 : decode cX2_readMove 69 = .ok (.ifCond .eq 15, 3) := by decide +kernel
theorem dX2_readMove_72 : decode cX2_readMove 72 = .ok (.aload_n 0, 1) := by decide +kernel
theorem dX2_readMove_73 : decode cX2_readMove 73 = .ok (.aload_n 1, 1) := by decide +kernel
theorem dX2_readMove_74 : decode cX2_readMove 74 = .ok (.invokevirtual 77, 3) := by decide +kernel
theorem dX2_readMove_77 : decode cX2_readMove 77 = .ok (.ifCond .eq 7, 3) := by decide +kernel
theorem dX2_readMove_80 : decode cX2_readMove 80 = .ok (.iconst 1, 1) := by decide +kernel
theorem dX2_readMove_81 : decode cX2_readMove 81 = .ok (.goto 4, 3) := by decide +kernel
theorem dX2_readMove_84 : decode cX2_readMove 84 = .ok (.iconst 0, 1) := by decide +kernel
theorem dX2_readMove_85 : decode cX2_readMove 85 = .ok (.ireturn, 1) := by decide +kernel
theorem dX2_readMove_86 : decode cX2_readMove 86 = .ok (.aload_n 0, 1) := by decide +kernel
theorem dX2_readMove_87 : decode cX2_readMove 87 = .ok (.getfield 12, 3) := by decide +kernel
theorem dX2_readMove_90 : decode cX2_readMove 90 = .ok (.ldc 85, 2) := by decide +kernel
theorem dX2_readMove_92 : decode cX2_readMove 92 = .ok (.invokevirtual 65, 3) := by decide +kernel
theorem dX2_readMove_95 : decode cX2_readMove 95 = .ok (.ifCond .eq 51, 3) := by decide +kernel
theorem dX2_readMove_98 : decode cX2_readMove 98 = .ok (.aload_n 1, 1) := by decide +kernel
theorem dX2_readMove_99 : decode cX2_readMove 99 = .ok (.iconst 2, 1) := by decide +kernel
theorem dX2_readMove_100 : decode cX2_readMove 100 = .ok (.putfield 69, 3) := by decide +kernel
theorem dX2_readMove_103 : decode cX2_readMove 103 = .ok (.aload_n 1, 1) := by decide +kernel
theorem dX2_readMove_104 : decode cX2_readMove 104 = .ok (.aload_n 0, 1) := by decide +kernel
theorem dX2_readMove_105 : decode cX2_readMove 105 = .ok (.getfield 12, 3) := by decide +kernel
theorem dX2_readMove_108 : decode cX2_readMove 108 = .ok (.iconst 0, 1) := by decide +kernel
theorem dX2_readMove_109 : decode cX2_readMove 109 = .ok (.iconst 3, 1) := by decide +kernel
theorem dX2_readMove_110 : decode cX2_readMove 110 = .ok (.invokevirtual 87, 3) := by decide +kernel
theorem dX2_readMove_113 : decode cX2_readMove 113 = .ok (.putfield 91, 3) := by decide +kernel
theorem dX2_readMove_116 : decode cX2_readMove 116 = .ok (.aload_n 1, 1) := by decide +kernel
theorem dX2_readMove_117 : decode cX2_readMove 117 = .ok (.getfield 91, 3) := by decide +kernel
theorem dX2_readMove_120 : decode cX2_readMove 120 = .ok (.iconst (-1), 1) := by decide +kernel
theorem dX2_readMove_121 : decode cX2_readMove 121 = .ok (.if_icmp .eq 23, 3) := by decide +kernel
theorem dX2_readMove_124 : decode cX2_readMove 124 = .ok (.aload_n 0, 1) := by decide +kernel
theorem dX2_readMove_125 : decode cX2_readMove 125 = .ok (.aload_n 1, 1) := by decide +kernel
theorem dX2_readMove_126 : decode cX2_readMove 126 = .ok (.invokevirtual 74, 3) := by decide +kernel
theorem dX2_readMove_129 : decode cX2_readMove 129 = .ok (.ifCond .eq 15, 3) := by decide +kernel
theorem dX2_readMove_132 : decode cX2_readMove 132 = .ok (.aload_n 0, 1) := by decide +kernel
theorem dX2_readMove_133 : decode cX2_readMove 133 = .ok (.aload_n 1, 1) := by decide +kernel
theorem dX2_readMove_134 : decode cX2_readMove 134 = .ok (.invokevirtual 80, 3) := by decide +kernel
theorem dX2_readMove_137 : decode cX2_readMove 137 = .ok (.ifCond .eq 7, 3) := by decide +kernel
theorem dX2_readMove_140 : decode cX2_readMove 140 = .ok (.iconst 1, 1) := by decide +kernel
theorem dX2_readMove_141 : decode cX2_readMove 141 = .ok (.goto 4, 3) := by decide +kernel
theorem dX2_readMove_144 : decode cX2_readMove 144 = .ok (.iconst 0, 1) := by decide +kernel
theorem dX2_readMove_145 : decode cX2_readMove 145 = .ok (.ireturn, 1) := by decide +kernel
theorem dX2_readMove_146 : decode cX2_readMove 146 = .ok (.iconst 0, 1) := by decide +kernel
theorem dX2_readMove_147 : decode cX2_readMove 147 = .ok (.ireturn, 1) := by decide +kernel
theorem dX2_readAmount_0 : decode cX2_readAmount 0 = .ok (.aload_n 1, 1) := by decide +kernel
theorem dX2_readAmount_1 : decode cX2_readAmount 1 = .ok (.aload_n 0, 1) := by decide +kernel
theorem dX2_readAmount_2 : decode cX2_readAmount 2 = .ok (.getfield 21, 3) := by decide +kernel
theorem dX2_readAmount_5 : decode cX2_readAmount 5 = .ok (.getfield 29, 3) := by decide +kernel
theorem dX2_readAmount_8 : decode cX2_readAmount 8 = .ok (.putfield 94, 3) := by decide +kernel
theorem dX2_readAmount_11 : decode cX2_readAmount 11 = .ok (.aload_n 0, 1) := by decide +kernel
theorem dX2_readAmount_12 : decode cX2_readAmount 12 = .ok (.iconst 0, 1) := by decide +kernel
theorem dX2_readAmount_13 : decode cX2_readAmount 13 = .ok (.invokevirtual 97, 3) := by decide +kernel
theorem dX2_readAmount_16 : decode cX2_readAmount 16 = .ok (.istore_n 2, 1) := by decide +kernel
theorem dX2_readAmount_17 : decode cX2_readAmount 17 = .ok (.aload_n 1, 1) := by decide +kernel
theorem dX2_readAmount_18 : decode cX2_readAmount 18 = .ok (.aload_n 0, 1) := by decide +kernel
theorem dX2_readAmount_19 : decode cX2_readAmount 19 = .ok (.getfield 21, 3) := by decide +kernel
theorem dX2_readAmount_22 : decode cX2_readAmount 22 = .ok (.getfield 29, 3) := by decide +kernel
theorem dX2_readAmount_25 : decode cX2_readAmount 25 = .ok (.putfield 101, 3) := by decide +kernel
theorem dX2_readAmount_28 : decode cX2_readAmount 28 = .ok (.iload_n 2, 1) := by decide +kernel
theorem dX2_readAmount_29 : decode cX2_readAmount 29 = .ok (.ireturn, 1) := by decide +kernel
theorem dX2_readFrom_0 : decode cX2_readFrom 0 = .ok (.aload_n 1, 1) := by decide +kernel
theorem dX2_readFrom_1 : decode cX2_readFrom 1 = .ok (.aload_n 0, 1) := by decide +kernel
theorem dX2_readFrom_2 : decode cX2_readFrom 2 = .ok (.getfield 12, 3) := by decide +kernel
theorem dX2_readFrom_5 : decode cX2_readFrom 5 = .ok (.ldc 104, 2) := by decide +kernel
theorem dX2_readFrom_7 : decode cX2_readFrom 7 = .ok (.invokevirtual 65, 3) := by decide +kernel
theorem dX2_readFrom_10 : decode cX2_readFrom 10 = .ok (.ifCond .eq 15, 3) := by decide +kernel
theorem dX2_readFrom_13 : decode cX2_readFrom 13 = .ok (.aload_n 0, 1) := by decide +kernel
theorem dX2_readFrom_14 : decode cX2_readFrom 14 = .ok (.getfield 12, 3) := by decide +kernel
theorem dX2_readFrom_17 : decode cX2_readFrom 17 = .ok (.iconst 0, 1) := by decide +kernel
theorem dX2_readFrom_18 : decode cX2_readFrom 18 = .ok (.iconst 5, 1) := by decide +kernel
theorem dX2_readFrom_19 : decode cX2_readFrom 19 = .ok (.invokevirtual 87, 3) := by decide +kernel
theorem dX2_readFrom_22 : decode cX2_readFrom 22 = .ok (.goto 4, 3) := by decide +kernel
theorem dX2_readFrom_25 : decode cX2_readFrom 25 = .ok (.iconst (-1), 1) := by decide +kernel
theorem dX2_readFrom_26 : decode cX2_readFrom 26 = .ok (.putfield 106, 3) := by decide +kernel
theorem dX2_readFrom_29 : decode cX2_readFrom 29 = .ok (.aload_n 1, 1) := by decide +kernel
theorem dX2_readFrom_30 : decode cX2_readFrom 30 = .ok (.getfield 106, 3) := by decide +kernel
theorem dX2_readFrom_33 : decode cX2_readFrom 33 = .ok (.iconst (-1), 1) := by decide +kernel
theorem dX2_readFrom_34 : decode cX2_readFrom 34 = .ok (.if_icmp .eq 7, 3) := by decide +kernel
theorem dX2_readFrom_37 : decode cX2_readFrom 37 = .ok (.iconst 1, 1) := by decide +kernel
theorem dX2_readFrom_38 : decode cX2_readFrom 38 = .ok (.goto 4, 3) := by decide +kernel
theorem dX2_readFrom_41 : decode cX2_readFrom 41 = .ok (.iconst 0, 1) := by decide +kernel
theorem dX2_readFrom_42 : decode cX2_readFrom 42 = .ok (.ireturn, 1) := by decide +kernel
theorem dX2_readTo_0 : decode cX2_readTo 0 = .ok (.aload_n 1, 1) := by decide +kernel
theorem dX2_readTo_1 : decode cX2_readTo 1 = .ok (.aload_n 0, 1) := by decide +kernel
theorem dX2_readTo_2 : decode cX2_readTo 2 = .ok (.getfield 12, 3) := by decide +kernel
theorem dX2_readTo_5 : decode cX2_readTo 5 = .ok (.ldc 108, 2) := by decide +kernel
theorem dX2_readTo_7 : decode cX2_readTo 7 = .ok (.invokevirtual 65, 3) := by decide +kernel
theorem dX2_readTo_10 : decode cX2_readTo 10 = .ok (.ifCond .eq 15, 3) := by decide +kernel
theorem dX2_readTo_13 : decode cX2_readTo 13 = .ok (.aload_n 0, 1) := by decide +kernel
theorem dX2_readTo_14 : decode cX2_readTo 14 = .ok (.getfield 12, 3) := by decide +kernel
theorem dX2_readTo_17 : decode cX2_readTo 17 = .ok (.iconst 0, 1) := by decide +kernel
theorem dX2_readTo_18 : decode cX2_readTo 18 = .ok (.iconst 5, 1) := by decide +kernel
theorem dX2_readTo_19 : decode cX2_readTo 19 = .ok (.invokevirtual 87, 3) := by decide +kernel
theorem dX2_readTo_22 : decode cX2_readTo 22 = .ok (.goto 4, 3) := by decide +kernel
theorem dX2_readTo_25 : decode cX2_readTo 25 = .ok (.iconst (-1), 1) := by decide +kernel
theorem dX2_readTo_26 : decode cX2_readTo 26 = .ok (.putfield 110, 3) := by decide +kernel
theorem dX2_readTo_29 : decode cX2_readTo 29 = .ok (.aload_n 1, 1) := by decide +kernel
theorem dX2_readTo_30 : decode cX2_readTo 30 = .ok (.getfield 110, 3) := by decide +kernel
theorem dX2_readTo_33 : decode cX2_readTo 33 = .ok (.iconst (-1), 1) := by decide +kernel
theorem dX2_readTo_34 : decode cX2_readTo 34 = .ok (.if_icmp .eq 7, 3) := by decide +kernel
theorem dX2_readTo_37 : decode cX2_readTo 37 = .ok (.iconst 1, 1) := by decide +kernel
theorem dX2_readTo_38 : decode cX2_readTo 38 = .ok (.goto 4, 3) := by decide +kernel
theorem dX2_readTo_41 : decode cX2_readTo 41 = .ok (.iconst 0, 1) := by decide +kernel
theorem dX2_readTo_42 : decode cX2_readTo 42 = .ok (.ireturn, 1) := by decide +kernel
theorem dX2_readTimes_0 : decode cX2_readTimes 0 = .ok (.aload_n 1, 1) := by decide +kernel
theorem dX2_readTimes_1 : decode cX2_readTimes 1 = .ok (.aload_n 0, 1) := by decide +kernel
theorem dX2_readTimes_2 : decode cX2_readTimes 2 = .ok (.getfield 12, 3) := by decide +kernel
theorem dX2_readTimes_5 : decode cX2_readTimes 5 = .ok (.ldc 112, 2) := by decide +kernel
theorem dX2_readTimes_7 : decode cX2_readTimes 7 = .ok (.invokevirtual 65, 3) := by decide +kernel
theorem dX2_readTimes_10 : decode cX2_readTimes 10 = .ok (.ifCond .eq 16, 3) := by decide +kernel
theorem dX2_readTimes_13 : decode cX2_readTimes 13 = .ok (.aload_n 0, 1) := by decide +kernel
theorem dX2_readTimes_14 : decode cX2_readTimes 14 = .ok (.getfield 12, 3) := by decide +kernel
theorem dX2_readTimes_17 : decode cX2_readTimes 17 = .ok (.iconst 1, 1) := by decide +kernel
theorem dX2_readTimes_18 : decode cX2_readTimes 18 = .ok (.bipush 20, 2) := by decide +kernel
theorem dX2_readTimes_20 : decode cX2_readTimes 20 = .ok (.invokevirtual 87, 3) := by decide +kernel
theorem dX2_readTimes_23 : decode cX2_readTimes 23 = .ok (.goto 4, 3) := by decide +kernel
theorem dX2_readTimes_26 : decode cX2_readTimes 26 = .ok (.iconst 1, 1) := by decide +kernel
theorem dX2_readTimes_27 : decode cX2_readTimes 27 = .ok (.putfield 114, 3) := by decide +kernel
theorem dX2_readTimes_30 : decode cX2_readTimes 30 = .ok (.aload_n 1, 1) := by decide +kernel
theorem dX2_readTimes_31 : decode cX2_readTimes 31 = .ok (.getfield 114, 3) := by decide +kernel
theorem dX2_readTimes_34 : decode cX2_readTimes 34 = .ok (.iconst (-1), 1) := by decide +kernel
theorem dX2_readTimes_35 : decode cX2_readTimes 35 = .ok (.if_icmp .eq 7, 3) := by decide +kernel
theorem dX2_readTimes_38 : decode cX2_readTimes 38 = .ok (.iconst 1, 1) := by decide +kernel
theorem dX2_readTimes_39 : decode cX2_readTimes 39 = .ok (.goto 4, 3) := by decide +kernel
theorem dX2_readTimes_42 : decode cX2_readTimes 42 = .ok (.iconst 0, 1) := by decide +kernel
theorem dX2_readTimes_43 : decode cX2_readTimes 43 = .ok (.ireturn, 1) := by decide +kernel
theorem dX2_readIf_0 : decode cX2_readIf 0 = .ok (.aload_n 0, 1) := by decide +kernel
theorem dX2_readIf_1 : decode cX2_readIf 1 = .ok (.getfield 12, 3) := by decide +kernel
theorem dX2_readIf_4 : decode cX2_readIf 4 = .ok (.ldc 116, 2) := by decide +kernel
theorem dX2_readIf_6 : decode cX2_readIf 6 = .ok (.invokevirtual 65, 3) := by decide +kernel
theorem dX2_readIf_9 : decode cX2_readIf 9 = .ok (.ifCond .eq 11, 3) := by decide +kernel
theorem dX2_readIf_12 : decode cX2_readIf 12 = .ok (.aload_n 0, 1) := by decide +kernel
theorem dX2_readIf_13 : decode cX2_readIf 13 = .ok (.iconst 0, 1) := by decide +kernel
theorem dX2_readIf_14 : decode cX2_readIf 14 = .ok (.invokevirtual 118, 3) := by decide +kernel
theorem dX2_readIf_17 : decode cX2_readIf 17 = .ok (.ifCond .eq 7, 3) := by decide +kernel
theorem dX2_readIf_20 : decode cX2_readIf 20 = .ok (.iconst 1, 1) := by decide +kernel
theorem dX2_readIf_21 : decode cX2_readIf 21 = .ok (.goto 4, 3) := by decide +kernel
theorem dX2_readIf_24 : decode cX2_readIf 24 = .ok (.iconst 0, 1) := by decide +kernel
theorem dX2_readIf_25 : decode cX2_readIf 25 = .ok (.istore_n 2, 1) := by decide +kernel
theorem dX2_readIf_26 : decode cX2_readIf 26 = .ok (.aload_n 1, 1) := by decide +kernel
theorem dX2_readIf_27 : decode cX2_readIf 27 = .ok (.aload_n 0, 1) := by decide +kernel
theorem dX2_readIf_28 : decode cX2_readIf 28 = .ok (.getfield 21, 3) := by decide +kernel
theorem dX2_readIf_31 : decode cX2_readIf 31 = .ok (.getfield 29, 3) := by decide +kernel
theorem dX2_readIf_34 : decode cX2_readIf 34 = .ok (.putfield 121, 3) := by decide +kernel
theorem dX2_readIf_37 : decode cX2_readIf 37 = .ok (.iload_n 2, 1) := by decide +kernel
theorem dX2_readIf_38 : decode cX2_readIf 38 = .ok (.ireturn, 1) := by decide +kernel
theorem dX2_readTest_0 : decode cX2_readTest 0 = .ok (.aload_n 0, 1) := by decide +kernel
theorem dX2_readTest_1 : decode cX2_readTest 1 = .ok (.iload_n 1, 1) := by decide +kernel
theorem dX2_readTest_2 : decode cX2_readTest 2 = .ok (.invokevirtual 124, 3) := by decide +kernel
theorem dX2_readTest_5 : decode cX2_readTest 5 = .ok (.istore_n 2, 1) := by decide +kernel
theorem dX2_readTest_6 : decode cX2_readTest 6 = .ok (.iconst 0, 1) := by decide +kernel
theorem dX2_readTest_7 : decode cX2_readTest 7 = .ok (.istore_n 3, 1) := by decide +kernel
theorem dX2_readTest_8 : decode cX2_readTest 8 = .ok (.iload_n 3, 1) := by decide +kernel
theorem dX2_readTest_9 : decode cX2_readTest 9 = .ok (.sipush 400, 3) := by decide +kernel
theorem dX2_readTest_12 : decode cX2_readTest 12 = .ok (.if_icmp .ge 52, 3) := by decide +kernel
theorem dX2_readTest_15 : decode cX2_readTest 15 = .ok (.iload_n 2, 1) := by decide +kernel
theorem dX2_readTest_16 : decode cX2_readTest 16 = .ok (.ifCond .eq 48, 3) := by decide +kernel
theorem dX2_readTest_19 : decode cX2_readTest 19 = .ok (.aload_n 0, 1) := by decide +kernel
theorem dX2_readTest_20 : decode cX2_readTest 20 = .ok (.getfield 12, 3) := by decide +kernel
theorem dX2_readTest_23 : decode cX2_readTest 23 = .ok (.ldc 127, 2) := by decide +kernel
theorem dX2_readTest_25 : decode cX2_readTest 25 = .ok (.invokevirtual 65, 3) := by decide +kernel
theorem dX2_readTest_28 : decode cX2_readTest 28 = .ok (.ifCond .eq 36, 3) := by decide +kernel
theorem dX2_readTest_31 : decode cX2_readTest 31 = .ok (.aload_n 0, 1) := by decide +kernel
theorem dX2_readTest_32 : decode cX2_readTest 32 = .ok (.getfield 21, 3) := by decide +kernel
theorem dX2_readTest_35 : decode cX2_readTest 35 = .ok (.bipush 15, 2) := by decide +kernel
theorem dX2_readTest_37 : decode cX2_readTest 37 = .ok (.iconst 0, 1) := by decide +kernel
theorem dX2_readTest_38 : decode cX2_readTest 38 = .ok (.invokevirtual 129, 3) := by decide +kernel
theorem dX2_readTest_41 : decode cX2_readTest 41 = .ok (.istore 4, 2) := by decide +kernel
theorem dX2_readTest_43 : decode cX2_readTest 43 = .ok (.aload_n 0, 1) := by decide +kernel
theorem dX2_readTest_44 : decode cX2_readTest 44 = .ok (.iload_n 1, 1) := by decide +kernel
theorem dX2_readTest_45 : decode cX2_readTest 45 = .ok (.invokevirtual 124, 3) := by decide +kernel
theorem dX2_readTest_48 : decode cX2_readTest 48 = .ok (.istore_n 2, 1) := by decide +kernel
theorem dX2_readTest_49 : decode cX2_readTest 49 = .ok (.aload_n 0, 1) := by decide +kernel
theorem dX2_readTest_50 : decode cX2_readTest 50 = .ok (.getfield 21, 3) := by decide +kernel
theorem dX2_readTest_53 : decode cX2_readTest 53 = .ok (.iload 4, 2) := by decide +kernel
theorem dX2_readTest_55 : decode cX2_readTest 55 = .ok (.invokevirtual 132, 3) := by decide +kernel
theorem dX2_readTest_58 : decode cX2_readTest 58 = .ok (.iinc 3 1, 3) := by decide +kernel
theorem dX2_readTest_61 : decode cX2_readTest 61 = .ok (.goto (-53), 3) := by decide +kernel
theorem dX2_readTest_64 : decode cX2_readTest 64 = .ok (.iload_n 2, 1) := by decide +kernel
theorem dX2_readTest_65 : decode cX2_readTest 65 = .ok (.ireturn, 1) := by decide +kernel
theorem dX2_readBoth_0 : decode cX2_readBoth 0 = .ok (.aload_n 0, 1) := by decide +kernel
theorem dX2_readBoth_1 : decode cX2_readBoth 1 = .ok (.iload_n 1, 1) := by decide +kernel
theorem dX2_readBoth_2 : decode cX2_readBoth 2 = .ok (.invokevirtual 136, 3) := by decide +kernel
theorem dX2_readBoth_5 : decode cX2_readBoth 5 = .ok (.istore_n 2, 1) := by decide +kernel
theorem dX2_readBoth_6 : decode cX2_readBoth 6 = .ok (.iconst 0, 1) := by decide +kernel
theorem dX2_readBoth_7 : decode cX2_readBoth 7 = .ok (.istore_n 3, 1) := by decide +kernel
theorem dX2_readBoth_8 : decode cX2_readBoth 8 = .ok (.iload_n 3, 1) := by decide +kernel
theorem dX2_readBoth_9 : decode cX2_readBoth 9 = .ok (.sipush 400, 3) := by decide +kernel
theorem dX2_readBoth_12 : decode cX2_readBoth 12 = .ok (.if_icmp .ge 52, 3) := by decide +kernel
theorem dX2_readBoth_15 : decode cX2_readBoth 15 = .ok (.iload_n 2, 1) := by decide +kernel
theorem dX2_readBoth_16 : decode cX2_readBoth 16 = .ok (.ifCond .eq 48, 3) := by decide +kernel
theorem dX2_readBoth_19 : decode cX2_readBoth 19 = .ok (.aload_n 0, 1) := by decide +kernel
theorem dX2_readBoth_20 : decode cX2_readBoth 20 = .ok (.getfield 12, 3) := by decide +kernel
theorem dX2_readBoth_23 : decode cX2_readBoth 23 = .ok (.ldc 139, 2) := by decide +kernel
theorem dX2_readBoth_25 : decode cX2_readBoth 25 = .ok (.invokevirtual 65, 3) := by decide +kernel
theorem dX2_readBoth_28 : decode cX2_readBoth 28 = .ok (.ifCond .eq 36, 3) := by decide +kernel
theorem dX2_readBoth_31 : decode cX2_readBoth 31 = .ok (.aload_n 0, 1) := by decide +kernel
theorem dX2_readBoth_32 : decode cX2_readBoth 32 = .ok (.getfield 21, 3) := by decide +kernel
theorem dX2_readBoth_35 : decode cX2_readBoth 35 = .ok (.bipush 14, 2) := by decide +kernel
theorem dX2_readBoth_37 : decode cX2_readBoth 37 = .ok (.iconst 0, 1) := by decide +kernel
theorem dX2_readBoth_38 : decode cX2_readBoth 38 = .ok (.invokevirtual 129, 3) := by decide +kernel
theorem dX2_readBoth_41 : decode cX2_readBoth 41 = .ok (.istore 4, 2) := by decide +kernel
theorem dX2_readBoth_43 : decode cX2_readBoth 43 = .ok (.aload_n 0, 1) := by decide +kernel
theorem dX2_readBoth_44 : decode cX2_readBoth 44 = .ok (.iload_n 1, 1) := by decide +kernel
theorem dX2_readBoth_45 : decode cX2_readBoth 45 = .ok (.invokevirtual 136, 3) := by decide +kernel
theorem dX2_readBoth_48 : decode cX2_readBoth 48 = .ok (.istore_n 2, 1) := by decide +kernel
theorem dX2_readBoth_49 : decode cX2_readBoth 49 = .ok (.aload_n 0, 1) := by decide +kernel
theorem dX2_readBoth_50 : decode cX2_readBoth 50 = .ok (.getfield 21, 3) := by decide +kernel
theorem dX2_readBoth_53 : decode cX2_readBoth 53 = .ok (.iload 4, 2) := by decide +kernel
theorem dX2_readBoth_55 : decode cX2_readBoth 55 = .ok (.invokevirtual 132, 3) := by decide +kernel
theorem dX2_readBoth_58 : decode cX2_readBoth 58 = .ok (.iinc 3 1, 3) := by decide +kernel
theorem dX2_readBoth_61 : decode cX2_readBoth 61 = .ok (.goto (-53), 3) := by decide +kernel
theorem dX2_readBoth_64 : decode cX2_readBoth 64 = .ok (.iload_n 2, 1) := by decide +kernel
theorem dX2_readBoth_65 : decode cX2_readBoth 65 = .ok (.ireturn, 1) := by decide +kernel
theorem dX2_readPlain_0 : decode cX2_readPlain 0 = .ok (.iconst 0, 1) := by decide +kernel
theorem dX2_readPlain_1 : decode cX2_readPlain 1 = .ok (.istore_n 2, 1) := by decide +kernel
theorem dX2_readPlain_2 : decode cX2_readPlain 2 = .ok (.iconst 0, 1) := by decide +kernel
theorem dX2_readPlain_3 : decode cX2_readPlain 3 = .ok (.istore_n 3, 1) := by decide +kernel
theorem dX2_readPlain_4 : decode cX2_readPlain 4 = .ok (.iload_n 3, 1) := by decide +kernel
theorem dX2_readPlain_5 : decode cX2_readPlain 5 = .ok (.sipush 400, 3) := by decide +kernel
theorem dX2_readPlain_8 : decode cX2_readPlain 8 = .ok (.if_icmp .ge 31, 3) := by decide +kernel
theorem dX2_readPlain_11 : decode cX2_readPlain 11 = .ok (.aload_n 0, 1) := by decide +kernel
theorem dX2_readPlain_12 : decode cX2_readPlain 12 = .ok (.getfield 12, 3) := by decide +kernel
theorem dX2_readPlain_15 : decode cX2_readPlain 15 = .ok (.ldc 141, 2) := by decide +kernel
theorem dX2_readPlain_17 : decode cX2_readPlain 17 = .ok (.invokevirtual 65, 3) := by decide +kernel
theorem dX2_readPlain_20 : decode cX2_readPlain 20 = .ok (.ifCond .eq 19, 3) := by decide +kernel
theorem dX2_readPlain_23 : decode cX2_readPlain 23 = .ok (.iload_n 2, 1) := by decide +kernel
theorem dX2_readPlain_24 : decode cX2_readPlain 24 = .ok (.ifCond .ne 7, 3) := by decide +kernel
theorem dX2_readPlain_27 : decode cX2_readPlain 27 = .ok (.iconst 1, 1) := by decide +kernel
theorem dX2_readPlain_28 : decode cX2_readPlain 28 = .ok (.goto 4, 3) := by decide +kernel
theorem dX2_readPlain_31 : decode cX2_readPlain 31 = .ok (.iconst 0, 1) := by decide +kernel
theorem dX2_readPlain_32 : decode cX2_readPlain 32 = .ok (.istore_n 2, 1) := by decide +kernel
theorem dX2_readPlain_33 : decode cX2_readPlain 33 = .ok (.iinc 3 1, 3) := by decide +kernel
theorem dX2_readPlain_36 : decode cX2_readPlain 36 = .ok (.goto (-32), 3) := by decide +kernel
theorem dX2_readPlain_39 : decode cX2_readPlain 39 = .ok (.aload_n 0, 1) := by decide +kernel
theorem dX2_readPlain_40 : decode cX2_readPlain 40 = .ok (.getfield 12, 3) := by decide +kernel
theorem dX2_readPlain_43 : decode cX2_readPlain 43 = .ok (.bipush 40, 2) := by decide +kernel
theorem dX2_readPlain_45 : decode cX2_readPlain 45 = .ok (.invokevirtual 143, 3) := by decide +kernel
theorem dX2_readPlain_48 : decode cX2_readPlain 48 = .ok (.ifCond .eq 52, 3) := by decide +kernel
theorem dX2_readPlain_51 : decode cX2_readPlain 51 = .ok (.iload_n 1, 1) := by decide +kernel
theorem dX2_readPlain_52 : decode cX2_readPlain 52 = .ok (.bipush 8, 2) := by decide +kernel
theorem dX2_readPlain_54 : decode cX2_readPlain 54 = .ok (.if_icmp .ge 41, 3) := by decide +kernel
theorem dX2_readPlain_57 : decode cX2_readPlain 57 = .ok (.aload_n 0, 1) := by decide +kernel
theorem dX2_readPlain_58 : decode cX2_readPlain 58 = .ok (.getfield 12, 3) := by decide +kernel
theorem dX2_readPlain_61 : decode cX2_readPlain 61 = .ok (.bipush 40, 2) := by decide +kernel
theorem dX2_readPlain_63 : decode cX2_readPlain 63 = .ok (.invokevirtual 50, 3) := by decide +kernel
theorem dX2_readPlain_66 : decode cX2_readPlain 66 = .ok (.ifCond .eq 29, 3) := by decide +kernel
theorem dX2_readPlain_69 : decode cX2_readPlain 69 = .ok (.aload_n 0, 1) := by decide +kernel
theorem dX2_readPlain_70 : decode cX2_readPlain 70 = .ok (.iload_n 1, 1) := by decide +kernel
theorem dX2_readPlain_71 : decode cX2_readPlain 71 = .ok (.iconst 1, 1) := by decide +kernel
theorem dX2_readPlain_72 : decode cX2_readPlain 72 = .ok (.iadd, 1) := by decide +kernel
theorem dX2_readPlain_73 : decode cX2_readPlain 73 = .ok (.invokevirtual 118, 3) := by decide +kernel
theorem dX2_readPlain_76 : decode cX2_readPlain 76 = .ok (.ifCond .eq 19, 3) := by decide +kernel
theorem dX2_readPlain_79 : decode cX2_readPlain 79 = .ok (.aload_n 0, 1) := by decide +kernel
theorem dX2_readPlain_80 : decode cX2_readPlain 80 = .ok (.getfield 12, 3) := by decide +kernel
theorem dX2_readPlain_83 : decode cX2_readPlain 83 = .ok (.bipush 41, 2) := by decide +kernel
theorem dX2_readPlain_85 : decode cX2_readPlain 85 = .ok (.invokevirtual 50, 3) := by decide +kernel
theorem dX2_readPlain_88 : decode cX2_readPlain 88 = .ok (.ifCond .eq 7, 3) := by decide +kernel
theorem dX2_readPlain_91 : decode cX2_readPlain 91 = .ok (.iconst 1, 1) := by decide +kernel
theorem dX2_readPlain_92 : decode cX2_readPlain 92 = .ok (.goto 4, 3) := by decide +kernel
theorem dX2_readPlain_95 : decode cX2_readPlain 95 = .ok (.iconst 0, 1) := by decide +kernel
theorem dX2_readPlain_96 : decode cX2_readPlain 96 = .ok (.istore_n 3, 1) := by decide +kernel
theorem dX2_readPlain_97 : decode cX2_readPlain 97 = .ok (.goto 53, 3) := by decide +kernel
theorem dX2_readPlain_100 : decode cX2_readPlain 100 = .ok (.aload_n 0, 1) := by decide +kernel
theorem dX2_readPlain_101 : decode cX2_readPlain 101 = .ok (.iload_n 1, 1) := by decide +kernel
theorem dX2_readPlain_102 : decode cX2_readPlain 102 = .ok (.invokevirtual 97, 3) := by decide +kernel
theorem dX2_readPlain_105 : decode cX2_readPlain 105 = .ok (.istore_n 3, 1) := by decide +kernel
theorem dX2_readPlain_106 : decode cX2_readPlain 106 = .ok (.iload_n 3, 1) := by decide +kernel
theorem dX2_readPlain_107 : decode cX2_readPlain 107 = .ok (.ifCond .eq 10, 3) := by decide +kernel
theorem dX2_readPlain_110 : decode cX2_readPlain 110 = .ok (.aload_n 0, 1) := by decide +kernel
theorem dX2_readPlain_111 : decode cX2_readPlain 111 = .ok (.invokevirtual 146, 3) := by decide +kernel
theorem dX2_readPlain_114 : decode cX2_readPlain 114 = .ok (.goto 4, 3) := by decide +kernel
theorem dX2_readPlain_117 : decode cX2_readPlain 117 = .ok (.iconst 0, 1) := by decide +kernel
theorem dX2_readPlain_118 : decode cX2_readPlain 118 = .ok (.istore 4, 2) := by decide +kernel
theorem dX2_readPlain_120 : decode cX2_readPlain 120 = .ok (.iload 4, 2) := by decide +kernel
theorem dX2_readPlain_122 : decode cX2_readPlain 122 = .ok (.ifCond .eq 15, 3) := by decide +kernel
theorem dX2_readPlain_125 : decode cX2_readPlain 125 = .ok (.aload_n 0, 1) := by decide +kernel
theorem dX2_readPlain_126 : decode cX2_readPlain 126 = .ok (.iload_n 1, 1) := by decide +kernel
theorem dX2_readPlain_127 : decode cX2_readPlain 127 = .ok (.invokevirtual 97, 3) := by decide +kernel
theorem dX2_readPlain_130 : decode cX2_readPlain 130 = .ok (.ifCond .eq 7, 3) := by decide +kernel
theorem dX2_readPlain_133 : decode cX2_readPlain 133 = .ok (.iconst 1, 1) := by decide +kernel
theorem dX2_readPlain_134 : decode cX2_readPlain 134 = .ok (.goto 4, 3) := by decide +kernel
theorem dX2_readPlain_137 : decode cX2_readPlain 137 = .ok (.iconst 0, 1) := by decide +kernel
theorem dX2_readPlain_138 : decode cX2_readPlain 138 = .ok (.istore_n 3, 1) := by decide +kernel
theorem dX2_readPlain_139 : decode cX2_readPlain 139 = .ok (.aload_n 0, 1) := by decide +kernel
theorem dX2_readPlain_140 : decode cX2_readPlain 140 = .ok (.getfield 21, 3) := by decide +kernel
theorem dX2_readPlain_143 : decode cX2_readPlain 143 = .ok (.iload 4, 2) := by decide +kernel
theorem dX2_readPlain_145 : decode cX2_readPlain 145 = .ok (.iconst 0, 1) := by decide +kernel
theorem dX2_readPlain_146 : decode cX2_readPlain 146 = .ok (.invokevirtual 129, 3) := by decide +kernel
theorem dX2_readPlain_149 : decode cX2_readPlain 149 = .ok (.pop, 1) := by decide +kernel
theorem dX2_readPlain_150 : decode cX2_readPlain 150 = .ok (.iload_n 2, 1) := by decide +kernel
theorem dX2_readPlain_151 : decode cX2_readPlain 151 = .ok (.ifCond .eq 14, 3) := by decide +kernel
theorem dX2_readPlain_154 : decode cX2_readPlain 154 = .ok (.aload_n 0, 1) := by decide +kernel
theorem dX2_readPlain_155 : decode cX2_readPlain 155 = .ok (.getfield 21, 3) := by decide +kernel
theorem dX2_readPlain_158 : decode cX2_readPlain 158 = .ok (.bipush 13, 2) := by decide +kernel
theorem dX2_readPlain_160 : decode cX2_readPlain 160 = .ok (.iconst 0, 1) := by decide +kernel
theorem dX2_readPlain_161 : decode cX2_readPlain 161 = .ok (.invokevirtual 129, 3) := by decide +kernel
theorem dX2_readPlain_164 : decode cX2_readPlain 164 = .ok (.pop, 1) := by decide +kernel
theorem dX2_readPlain_165 : decode cX2_readPlain 165 = .ok (.iload_n 3, 1) := by decide +kernel
theorem dX2_readPlain_166 : decode cX2_readPlain 166 = .ok (.ireturn, 1) := by decide +kernel
theorem dX2_takeComparison_0 : decode cX2_takeComparison 0 = .ok (.aload_n 0, 1) := by decide +kernel
theorem dX2_takeComparison_1 : decode cX2_takeComparison 1 = .ok (.getfield 12, 3) := by decide +kernel
theorem dX2_takeComparison_4 : decode cX2_takeComparison 4 = .ok (.bipush 60, 2) := by decide +kernel
theorem dX2_takeComparison_6 : decode cX2_takeComparison 6 = .ok (.invokevirtual 50, 3) := by decide +kernel
theorem dX2_takeComparison_9 : decode cX2_takeComparison 9 = .ok (.ifCond .eq 6, 3) := by decide +kernel
theorem dX2_takeComparison_12 : decode cX2_takeComparison 12 = .ok (.bipush 10, 2) := by decide +kernel
theorem dX2_takeComparison_14 : decode cX2_takeComparison 14 = .ok (.ireturn, 1) := by decide +kernel
theorem dX2_takeComparison_15 : decode cX2_takeComparison 15 = .ok (.aload_n 0, 1) := by decide +kernel
theorem dX2_takeComparison_16 : decode cX2_takeComparison 16 = .ok (.getfield 12, 3) := by decide +kernel
theorem dX2_takeComparison_19 : decode cX2_takeComparison 19 = .ok (.bipush 62, 2) := by decide +kernel
theorem dX2_takeComparison_21 : decode cX2_takeComparison 21 = .ok (.invokevirtual 50, 3) := by decide +kernel
theorem dX2_takeComparison_24 : decode cX2_takeComparison 24 = .ok (.ifCond .eq 6, 3) := by decide +kernel
theorem dX2_takeComparison_27 : decode cX2_takeComparison 27 = .ok (.bipush 11, 2) := by decide +kernel
theorem dX2_takeComparison_29 : decode cX2_takeComparison 29 = .ok (.ireturn, 1) := by decide +kernel
theorem dX2_takeComparison_30 : decode cX2_takeComparison 30 = .ok (.aload_n 0, 1) := by decide +kernel
theorem dX2_takeComparison_31 : decode cX2_takeComparison 31 = .ok (.getfield 12, 3) := by decide +kernel
theorem dX2_takeComparison_34 : decode cX2_takeComparison 34 = .ok (.bipush 61, 2) := by decide +kernel
theorem dX2_takeComparison_36 : decode cX2_takeComparison 36 = .ok (.invokevirtual 50, 3) := by decide +kernel
theorem dX2_takeComparison_39 : decode cX2_takeComparison 39 = .ok (.ifCond .eq 8, 3) := by decide +kernel
theorem dX2_takeComparison_42 : decode cX2_takeComparison 42 = .ok (.bipush 12, 2) := by decide +kernel
theorem dX2_takeComparison_44 : decode cX2_takeComparison 44 = .ok (.goto 4, 3) := by decide +kernel
theorem dX2_takeComparison_47 : decode cX2_takeComparison 47 = .ok (.iconst 0, 1) := by decide +kernel
theorem dX2_takeComparison_48 : decode cX2_takeComparison 48 = .ok (.ireturn, 1) := by decide +kernel
theorem dX2_readSum_0 : decode cX2_readSum 0 = .ok (.aload_n 0, 1) := by decide +kernel
theorem dX2_readSum_1 : decode cX2_readSum 1 = .ok (.iload_n 1, 1) := by decide +kernel
theorem dX2_readSum_2 : decode cX2_readSum 2 = .ok (.invokevirtual 150, 3) := by decide +kernel
theorem dX2_readSum_5 : decode cX2_readSum 5 = .ok (.istore_n 2, 1) := by decide +kernel
theorem dX2_readSum_6 : decode cX2_readSum 6 = .ok (.iload_n 2, 1) := by decide +kernel
theorem dX2_readSum_7 : decode cX2_readSum 7 = .ok (.ifCond .eq 10, 3) := by decide +kernel
theorem dX2_readSum_10 : decode cX2_readSum 10 = .ok (.aload_n 0, 1) := by decide +kernel
theorem dX2_readSum_11 : decode cX2_readSum 11 = .ok (.invokevirtual 153, 3) := by decide +kernel
theorem dX2_readSum_14 : decode cX2_readSum 14 = .ok (.goto 4, 3) := by decide +kernel
theorem dX2_readSum_17 : decode cX2_readSum 17 = .ok (.iconst 0, 1) := by decide +kernel
theorem dX2_readSum_18 : decode cX2_readSum 18 = .ok (.istore_n 3, 1) := by decide +kernel
theorem dX2_readSum_19 : decode cX2_readSum 19 = .ok (.iconst 0, 1) := by decide +kernel
theorem dX2_readSum_20 : decode cX2_readSum 20 = .ok (.istore 4, 2) := by decide +kernel
theorem dX2_readSum_22 : decode cX2_readSum 22 = .ok (.iload 4, 2) := by decide +kernel
theorem dX2_readSum_24 : decode cX2_readSum 24 = .ok (.sipush 400, 3) := by decide +kernel
theorem dX2_readSum_27 : decode cX2_readSum 27 = .ok (.if_icmp .ge 42, 3) := by decide +kernel
theorem dX2_readSum_30 : decode cX2_readSum 30 = .ok (.iload_n 3, 1) := by decide +kernel
theorem dX2_readSum_31 : decode cX2_readSum 31 = .ok (.ifCond .eq 38, 3) := by decide +kernel
theorem dX2_readSum_34 : decode cX2_readSum 34 = .ok (.aload_n 0, 1) := by decide +kernel
theorem dX2_readSum_35 : decode cX2_readSum 35 = .ok (.iload_n 1, 1) := by decide +kernel
theorem dX2_readSum_36 : decode cX2_readSum 36 = .ok (.invokevirtual 150, 3) := by decide +kernel
theorem dX2_readSum_39 : decode cX2_readSum 39 = .ok (.istore_n 2, 1) := by decide +kernel
theorem dX2_readSum_40 : decode cX2_readSum 40 = .ok (.aload_n 0, 1) := by decide +kernel
theorem dX2_readSum_41 : decode cX2_readSum 41 = .ok (.getfield 21, 3) := by decide +kernel
theorem dX2_readSum_44 : decode cX2_readSum 44 = .ok (.iload_n 3, 1) := by decide +kernel
theorem dX2_readSum_45 : decode cX2_readSum 45 = .ok (.iconst 0, 1) := by decide +kernel
theorem dX2_readSum_46 : decode cX2_readSum 46 = .ok (.invokevirtual 129, 3) := by decide +kernel
theorem dX2_readSum_49 : decode cX2_readSum 49 = .ok (.pop, 1) := by decide +kernel
theorem dX2_readSum_50 : decode cX2_readSum 50 = .ok (.iload_n 2, 1) := by decide +kernel
theorem dX2_readSum_51 : decode cX2_readSum 51 = .ok (.ifCond .eq 10, 3) := by decide +kernel
theorem dX2_readSum_54 : decode cX2_readSum 54 = .ok (.aload_n 0, 1) := by decide +kernel
theorem dX2_readSum_55 : decode cX2_readSum 55 = .ok (.invokevirtual 153, 3) := by decide +kernel
theorem dX2_readSum_58 : decode cX2_readSum 58 = .ok (.goto 4, 3) := by decide +kernel
theorem dX2_readSum_61 : decode cX2_readSum 61 = .ok (.iconst 0, 1) := by decide +kernel
theorem dX2_readSum_62 : decode cX2_readSum 62 = .ok (.istore_n 3, 1) := by decide +kernel
theorem dX2_readSum_63 : decode cX2_readSum 63 = .ok (.iinc 4 1, 3) := by decide +kernel
theorem dX2_readSum_66 : decode cX2_readSum 66 = .ok (.goto (-44), 3) := by decide +kernel
theorem dX2_readSum_69 : decode cX2_readSum 69 = .ok (.iload_n 2, 1) := by decide +kernel
theorem dX2_readSum_70 : decode cX2_readSum 70 = .ok (.ireturn, 1) := by decide +kernel
theorem dX2_takeSumSign_0 : decode cX2_takeSumSign 0 = .ok (.aload_n 0, 1) := by decide +kernel
theorem dX2_takeSumSign_1 : decode cX2_takeSumSign 1 = .ok (.getfield 12, 3) := by decide +kernel
theorem dX2_takeSumSign_4 : decode cX2_takeSumSign 4 = .ok (.bipush 43, 2) := by decide +kernel
theorem dX2_takeSumSign_6 : decode cX2_takeSumSign 6 = .ok (.invokevirtual 50, 3) := by decide +kernel
theorem dX2_takeSumSign_9 : decode cX2_takeSumSign 9 = .ok (.ifCond .eq 6, 3) := by decide +kernel
theorem dX2_takeSumSign_12 : decode cX2_takeSumSign 12 = .ok (.bipush 6, 2) := by decide +kernel
theorem dX2_takeSumSign_14 : decode cX2_takeSumSign 14 = .ok (.ireturn, 1) := by decide +kernel
theorem dX2_takeSumSign_15 : decode cX2_takeSumSign 15 = .ok (.aload_n 0, 1) := by decide +kernel
theorem dX2_takeSumSign_16 : decode cX2_takeSumSign 16 = .ok (.getfield 12, 3) := by decide +kernel
theorem dX2_takeSumSign_19 : decode cX2_takeSumSign 19 = .ok (.bipush 45, 2) := by decide +kernel
theorem dX2_takeSumSign_21 : decode cX2_takeSumSign 21 = .ok (.invokevirtual 50, 3) := by decide +kernel
theorem dX2_takeSumSign_24 : decode cX2_takeSumSign 24 = .ok (.ifCond .eq 8, 3) := by decide +kernel
theorem dX2_takeSumSign_27 : decode cX2_takeSumSign 27 = .ok (.bipush 7, 2) := by decide +kernel
theorem dX2_takeSumSign_29 : decode cX2_takeSumSign 29 = .ok (.goto 4, 3) := by decide +kernel
theorem dX2_takeSumSign_32 : decode cX2_takeSumSign 32 = .ok (.iconst 0, 1) := by decide +kernel
theorem dX2_takeSumSign_33 : decode cX2_takeSumSign 33 = .ok (.ireturn, 1) := by decide +kernel
theorem dX2_readTerm_0 : decode cX2_readTerm 0 = .ok (.aload_n 0, 1) := by decide +kernel
theorem dX2_readTerm_1 : decode cX2_readTerm 1 = .ok (.iload_n 1, 1) := by decide +kernel
theorem dX2_readTerm_2 : decode cX2_readTerm 2 = .ok (.invokevirtual 156, 3) := by decide +kernel
theorem dX2_readTerm_5 : decode cX2_readTerm 5 = .ok (.istore_n 2, 1) := by decide +kernel
theorem dX2_readTerm_6 : decode cX2_readTerm 6 = .ok (.iload_n 2, 1) := by decide +kernel
theorem dX2_readTerm_7 : decode cX2_readTerm 7 = .ok (.ifCond .eq 10, 3) := by decide +kernel
theorem dX2_readTerm_10 : decode cX2_readTerm 10 = .ok (.aload_n 0, 1) := by decide +kernel
theorem dX2_readTerm_11 : decode cX2_readTerm 11 = .ok (.invokevirtual 159, 3) := by decide +kernel
theorem dX2_readTerm_14 : decode cX2_readTerm 14 = .ok (.goto 4, 3) := by decide +kernel
theorem dX2_readTerm_17 : decode cX2_readTerm 17 = .ok (.iconst 0, 1) := by decide +kernel
theorem dX2_readTerm_18 : decode cX2_readTerm 18 = .ok (.istore_n 3, 1) := by decide +kernel
theorem dX2_readTerm_19 : decode cX2_readTerm 19 = .ok (.iconst 0, 1) := by decide +kernel
theorem dX2_readTerm_20 : decode cX2_readTerm 20 = .ok (.istore 4, 2) := by decide +kernel
theorem dX2_readTerm_22 : decode cX2_readTerm 22 = .ok (.iload 4, 2) := by decide +kernel
theorem dX2_readTerm_24 : decode cX2_readTerm 24 = .ok (.sipush 400, 3) := by decide +kernel
theorem dX2_readTerm_27 : decode cX2_readTerm 27 = .ok (.if_icmp .ge 42, 3) := by decide +kernel
theorem dX2_readTerm_30 : decode cX2_readTerm 30 = .ok (.iload_n 3, 1) := by decide +kernel
theorem dX2_readTerm_31 : decode cX2_readTerm 31 = .ok (.ifCond .eq 38, 3) := by decide +kernel
theorem dX2_readTerm_34 : decode cX2_readTerm 34 = .ok (.aload_n 0, 1) := by decide +kernel
theorem dX2_readTerm_35 : decode cX2_readTerm 35 = .ok (.iload_n 1, 1) := by decide +kernel
theorem dX2_readTerm_36 : decode cX2_readTerm 36 = .ok (.invokevirtual 156, 3) := by decide +kernel
theorem dX2_readTerm_39 : decode cX2_readTerm 39 = .ok (.istore_n 2, 1) := by decide +kernel
theorem dX2_readTerm_40 : decode cX2_readTerm 40 = .ok (.aload_n 0, 1) := by decide +kernel
theorem dX2_readTerm_41 : decode cX2_readTerm 41 = .ok (.getfield 21, 3) := by decide +kernel
theorem dX2_readTerm_44 : decode cX2_readTerm 44 = .ok (.iload_n 3, 1) := by decide +kernel
theorem dX2_readTerm_45 : decode cX2_readTerm 45 = .ok (.iconst 0, 1) := by decide +kernel
theorem dX2_readTerm_46 : decode cX2_readTerm 46 = .ok (.invokevirtual 129, 3) := by decide +kernel
theorem dX2_readTerm_49 : decode cX2_readTerm 49 = .ok (.pop, 1) := by decide +kernel
theorem dX2_readTerm_50 : decode cX2_readTerm 50 = .ok (.iload_n 2, 1) := by decide +kernel
theorem dX2_readTerm_51 : decode cX2_readTerm 51 = .ok (.ifCond .eq 10, 3) := by decide +kernel
theorem dX2_readTerm_54 : decode cX2_readTerm 54 = .ok (.aload_n 0, 1) := by decide +kernel
theorem dX2_readTerm_55 : decode cX2_readTerm 55 = .ok (.invokevirtual 159, 3) := by decide +kernel
theorem dX2_readTerm_58 : decode cX2_readTerm 58 = .ok (.goto 4, 3) := by decide +kernel
theorem dX2_readTerm_61 : decode cX2_readTerm 61 = .ok (.iconst 0, 1) := by decide +kernel
theorem dX2_readTerm_62 : decode cX2_readTerm 62 = .ok (.istore_n 3, 1) := by decide +kernel
theorem dX2_readTerm_63 : decode cX2_readTerm 63 = .ok (.iinc 4 1, 3) := by decide +kernel
theorem dX2_readTerm_66 : decode cX2_readTerm 66 = .ok (.goto (-44), 3) := by decide +kernel
theorem dX2_readTerm_69 : decode cX2_readTerm 69 = .ok (.iload_n 2, 1) := by decide +kernel
theorem dX2_readTerm_70 : decode cX2_readTerm 70 = .ok (.ireturn, 1) := by decide +kernel
theorem dX2_takeTermSign_0 : decode cX2_takeTermSign 0 = .ok (.aload_n 0, 1) := by decide +kernel
theorem dX2_takeTermSign_1 : decode cX2_takeTermSign 1 = .ok (.getfield 12, 3) := by decide +kernel
theorem dX2_takeTermSign_4 : decode cX2_takeTermSign 4 = .ok (.bipush 42, 2) := by decide +kernel
theorem dX2_takeTermSign_6 : decode cX2_takeTermSign 6 = .ok (.invokevirtual 50, 3) := by decide +kernel
theorem dX2_takeTermSign_9 : decode cX2_takeTermSign 9 = .ok (.ifCond .eq 6, 3) := by decide +kernel
theorem dX2_takeTermSign_12 : decode cX2_takeTermSign 12 = .ok (.bipush 8, 2) := by decide +kernel
theorem dX2_takeTermSign_14 : decode cX2_takeTermSign 14 = .ok (.ireturn, 1) := by decide +kernel
theorem dX2_takeTermSign_15 : decode cX2_takeTermSign 15 = .ok (.aload_n 0, 1) := by decide +kernel
theorem dX2_takeTermSign_16 : decode cX2_takeTermSign 16 = .ok (.getfield 12, 3) := by decide +kernel
theorem dX2_takeTermSign_19 : decode cX2_takeTermSign 19 = .ok (.bipush 47, 2) := by decide +kernel
theorem dX2_takeTermSign_21 : decode cX2_takeTermSign 21 = .ok (.invokevirtual 50, 3) := by decide +kernel
theorem dX2_takeTermSign_24 : decode cX2_takeTermSign 24 = .ok (.ifCond .eq 8, 3) := by decide +kernel
theorem dX2_takeTermSign_27 : decode cX2_takeTermSign 27 = .ok (.bipush 9, 2) := by decide +kernel
theorem dX2_takeTermSign_29 : decode cX2_takeTermSign 29 = .ok (.goto 4, 3) := by decide +kernel
theorem dX2_takeTermSign_32 : decode cX2_takeTermSign 32 = .ok (.iconst 0, 1) := by decide +kernel
theorem dX2_takeTermSign_33 : decode cX2_takeTermSign 33 = .ok (.ireturn, 1) := by decide +kernel
theorem dX2_readPart_0 : decode cX2_readPart 0 = .ok (.aload_n 0, 1) := by decide +kernel
theorem dX2_readPart_1 : decode cX2_readPart 1 = .ok (.getfield 12, 3) := by decide +kernel
theorem dX2_readPart_4 : decode cX2_readPart 4 = .ok (.bipush 91, 2) := by decide +kernel
theorem dX2_readPart_6 : decode cX2_readPart 6 = .ok (.invokevirtual 143, 3) := by decide +kernel
theorem dX2_readPart_9 : decode cX2_readPart 9 = .ok (.ifCond .eq 49, 3) := by decide +kernel
theorem dX2_readPart_12 : decode cX2_readPart 12 = .ok (.iload_n 1, 1) := by decide +kernel
theorem dX2_readPart_13 : decode cX2_readPart 13 = .ok (.bipush 8, 2) := by decide +kernel
theorem dX2_readPart_15 : decode cX2_readPart 15 = .ok (.if_icmp .ge 41, 3) := by decide +kernel
theorem dX2_readPart_18 : decode cX2_readPart 18 = .ok (.aload_n 0, 1) := by decide +kernel
theorem dX2_readPart_19 : decode cX2_readPart 19 = .ok (.getfield 12, 3) := by decide +kernel
theorem dX2_readPart_22 : decode cX2_readPart 22 = .ok (.bipush 91, 2) := by decide +kernel
theorem dX2_readPart_24 : decode cX2_readPart 24 = .ok (.invokevirtual 50, 3) := by decide +kernel
theorem dX2_readPart_27 : decode cX2_readPart 27 = .ok (.ifCond .eq 29, 3) := by decide +kernel
theorem dX2_readPart_30 : decode cX2_readPart 30 = .ok (.aload_n 0, 1) := by decide +kernel
theorem dX2_readPart_31 : decode cX2_readPart 31 = .ok (.iload_n 1, 1) := by decide +kernel
theorem dX2_readPart_32 : decode cX2_readPart 32 = .ok (.iconst 1, 1) := by decide +kernel
theorem dX2_readPart_33 : decode cX2_readPart 33 = .ok (.iadd, 1) := by decide +kernel
theorem dX2_readPart_34 : decode cX2_readPart 34 = .ok (.invokevirtual 97, 3) := by decide +kernel
theorem dX2_readPart_37 : decode cX2_readPart 37 = .ok (.ifCond .eq 19, 3) := by decide +kernel
theorem dX2_readPart_40 : decode cX2_readPart 40 = .ok (.aload_n 0, 1) := by decide +kernel
theorem dX2_readPart_41 : decode cX2_readPart 41 = .ok (.getfield 12, 3) := by decide +kernel
theorem dX2_readPart_44 : decode cX2_readPart 44 = .ok (.bipush 93, 2) := by decide +kernel
theorem dX2_readPart_46 : decode cX2_readPart 46 = .ok (.invokevirtual 50, 3) := by decide +kernel
theorem dX2_readPart_49 : decode cX2_readPart 49 = .ok (.ifCond .eq 7, 3) := by decide +kernel
theorem dX2_readPart_52 : decode cX2_readPart 52 = .ok (.iconst 1, 1) := by decide +kernel
theorem dX2_readPart_53 : decode cX2_readPart 53 = .ok (.goto 4, 3) := by decide +kernel
theorem dX2_readPart_56 : decode cX2_readPart 56 = .ok (.iconst 0, 1) := by decide +kernel
theorem dX2_readPart_57 : decode cX2_readPart 57 = .ok (.ireturn, 1) := by decide +kernel
theorem dX2_readPart_58 : decode cX2_readPart 58 = .ok (.aload_n 0, 1) := by decide +kernel
theorem dX2_readPart_59 : decode cX2_readPart 59 = .ok (.getfield 25, 3) := by decide +kernel
theorem dX2_readPart_62 : decode cX2_readPart 62 = .ok (.bipush 50, 2) := by decide +kernel
theorem dX2_readPart_64 : decode cX2_readPart 64 = .ok (.if_icmp .lt 5, 3) := by decide +kernel
theorem dX2_readPart_67 : decode cX2_readPart 67 = .ok (.iconst 0, 1) := by decide +kernel
theorem dX2_readPart_68 : decode cX2_readPart 68 = .ok (.ireturn, 1) := by decide +kernel
theorem dX2_readPart_69 : decode cX2_readPart 69 = .ok (.aload_n 0, 1) := by decide +kernel
theorem dX2_readPart_70 : decode cX2_readPart 70 = .ok (.dup, 1) := by decide +kernel
theorem dX2_readPart_71 : decode cX2_readPart 71 = .ok (.getfield 25, 3) := by decide +kernel
theorem dX2_readPart_74 : decode cX2_readPart 74 = .ok (.iconst 1, 1) := by decide +kernel
theorem dX2_readPart_75 : decode cX2_readPart 75 = .ok (.iadd, 1) := by decide +kernel
theorem dX2_readPart_76 : decode cX2_readPart 76 = .ok (.putfield 25, 3) := by decide +kernel
theorem dX2_readPart_79 : decode cX2_readPart 79 = .ok (.aload_n 0, 1) := by decide +kernel
theorem dX2_readPart_80 : decode cX2_readPart 80 = .ok (.getfield 12, 3) := by decide +kernel
theorem dX2_readPart_83 : decode cX2_readPart 83 = .ok (.iconst 0, 1) := by decide +kernel
theorem dX2_readPart_84 : decode cX2_readPart 84 = .ok (.sipush 1000, 3) := by decide +kernel
theorem dX2_readPart_87 : decode cX2_readPart 87 = .ok (.invokevirtual 87, 3) := by decide +kernel
theorem dX2_readPart_90 : decode cX2_readPart 90 = .ok (.istore_n 2, 1) := by decide +kernel
theorem dX2_readPart_91 : decode cX2_readPart 91 = .ok (.iload_n 2, 1) := by decide +kernel
theorem dX2_readPart_92 : decode cX2_readPart 92 = .ok (.iconst (-1), 1) := by decide +kernel
theorem dX2_readPart_93 : decode cX2_readPart 93 = .ok (.if_icmp .eq 15, 3) := by decide +kernel
theorem dX2_readPart_96 : decode cX2_readPart 96 = .ok (.aload_n 0, 1) := by decide +kernel
theorem dX2_readPart_97 : decode cX2_readPart 97 = .ok (.getfield 21, 3) := by decide +kernel
theorem dX2_readPart_100 : decode cX2_readPart 100 = .ok (.iconst 1, 1) := by decide +kernel
theorem dX2_readPart_101 : decode cX2_readPart 101 = .ok (.iload_n 2, 1) := by decide +kernel
theorem dX2_readPart_102 : decode cX2_readPart 102 = .ok (.invokevirtual 129, 3) := by decide +kernel
theorem dX2_readPart_105 : decode cX2_readPart 105 = .ok (.pop, 1) := by decide +kernel
theorem dX2_readPart_106 : decode cX2_readPart 106 = .ok (.iconst 1, 1) := by decide +kernel
theorem dX2_readPart_107 : decode cX2_readPart 107 = .ok (.ireturn, 1) := by decide +kernel
theorem dX2_readPart_108 : decode cX2_readPart 108 = .ok (.aload_n 0, 1) := by decide +kernel
theorem dX2_readPart_109 : decode cX2_readPart 109 = .ok (.getfield 12, 3) := by decide +kernel
theorem dX2_readPart_112 : decode cX2_readPart 112 = .ok (.ldc 162, 2) := by decide +kernel
theorem dX2_readPart_114 : decode cX2_readPart 114 = .ok (.invokevirtual 65, 3) := by decide +kernel
theorem dX2_readPart_117 : decode cX2_readPart 117 = .ok (.ifCond .eq 15, 3) := by decide +kernel
theorem dX2_readPart_120 : decode cX2_readPart 120 = .ok (.aload_n 0, 1) := by decide +kernel
theorem dX2_readPart_121 : decode cX2_readPart 121 = .ok (.getfield 21, 3) := by decide +kernel
theorem dX2_readPart_124 : decode cX2_readPart 124 = .ok (.iconst 5, 1) := by decide +kernel
theorem dX2_readPart_125 : decode cX2_readPart 125 = .ok (.iconst 0, 1) := by decide +kernel
theorem dX2_readPart_126 : decode cX2_readPart 126 = .ok (.invokevirtual 129, 3) := by decide +kernel
theorem dX2_readPart_129 : decode cX2_readPart 129 = .ok (.pop, 1) := by decide +kernel
theorem dX2_readPart_130 : decode cX2_readPart 130 = .ok (.iconst 1, 1) := by decide +kernel
theorem dX2_readPart_131 : decode cX2_readPart 131 = .ok (.ireturn, 1) := by decide +kernel
theorem dX2_readPart_132 : decode cX2_readPart 132 = .ok (.aload_n 0, 1) := by decide +kernel
theorem dX2_readPart_133 : decode cX2_readPart 133 = .ok (.getfield 12, 3) := by decide +kernel
theorem dX2_readPart_136 : decode cX2_readPart 136 = .ok (.ldc 164, 2) := by decide +kernel
theorem dX2_readPart_138 : decode cX2_readPart 138 = .ok (.invokevirtual 65, 3) := by decide +kernel
theorem dX2_readPart_141 : decode cX2_readPart 141 = .ok (.ifCond .eq 10, 3) := by decide +kernel
theorem dX2_readPart_144 : decode cX2_readPart 144 = .ok (.aload_n 0, 1) := by decide +kernel
theorem dX2_readPart_145 : decode cX2_readPart 145 = .ok (.iconst 2, 1) := by decide +kernel
theorem dX2_readPart_146 : decode cX2_readPart 146 = .ok (.iconst 0, 1) := by decide +kernel
theorem dX2_readPart_147 : decode cX2_readPart 147 = .ok (.invokevirtual 166, 3) := by decide +kernel
theorem dX2_readPart_150 : decode cX2_readPart 150 = .ok (.ireturn, 1) := by decide +kernel
theorem dX2_readPart_151 : decode cX2_readPart 151 = .ok (.aload_n 0, 1) := by decide +kernel
theorem dX2_readPart_152 : decode cX2_readPart 152 = .ok (.getfield 12, 3) := by decide +kernel
theorem dX2_readPart_155 : decode cX2_readPart 155 = .ok (.ldc 170, 2) := by decide +kernel
theorem dX2_readPart_157 : decode cX2_readPart 157 = .ok (.invokevirtual 65, 3) := by decide +kernel
theorem dX2_readPart_160 : decode cX2_readPart 160 = .ok (.ifCond .eq 10, 3) := by decide +kernel
theorem dX2_readPart_163 : decode cX2_readPart 163 = .ok (.aload_n 0, 1) := by decide +kernel
theorem dX2_readPart_164 : decode cX2_readPart 164 = .ok (.iconst 3, 1) := by decide +kernel
theorem dX2_readPart_165 : decode cX2_readPart 165 = .ok (.iconst 0, 1) := by decide +kernel
theorem dX2_readPart_166 : decode cX2_readPart 166 = .ok (.invokevirtual 166, 3) := by decide +kernel
theorem dX2_readPart_169 : decode cX2_readPart 169 = .ok (.ireturn, 1) := by decide +kernel
theorem dX2_readPart_170 : decode cX2_readPart 170 = .ok (.aload_n 0, 1) := by decide +kernel
theorem dX2_readPart_171 : decode cX2_readPart 171 = .ok (.getfield 12, 3) := by decide +kernel
theorem dX2_readPart_174 : decode cX2_readPart 174 = .ok (.ldc 172, 2) := by decide +kernel
theorem dX2_readPart_176 : decode cX2_readPart 176 = .ok (.invokevirtual 65, 3) := by decide +kernel
theorem dX2_readPart_179 : decode cX2_readPart 179 = .ok (.ifCond .ne 5, 3) := by decide +kernel
theorem dX2_readPart_182 : decode cX2_readPart 182 = .ok (.iconst 0, 1) := by decide +kernel
theorem dX2_readPart_183 : decode cX2_readPart 183 = .ok (.ireturn, 1) := by decide +kernel
theorem dX2_readPart_184 : decode cX2_readPart 184 = .ok (.aload_n 0, 1) := by decide +kernel
theorem dX2_readPart_185 : decode cX2_readPart 185 = .ok (.getfield 12, 3) := by decide +kernel
theorem dX2_readPart_188 : decode cX2_readPart 188 = .ok (.iconst 0, 1) := by decide +kernel
theorem dX2_readPart_189 : decode cX2_readPart 189 = .ok (.iconst 3, 1) := by decide +kernel
theorem dX2_readPart_190 : decode cX2_readPart 190 = .ok (.invokevirtual 87, 3) := by decide +kernel
theorem dX2_readPart_193 : decode cX2_readPart 193 = .ok (.istore_n 3, 1) := by decide +kernel
theorem dX2_readPart_194 : decode cX2_readPart 194 = .ok (.iload_n 3, 1) := by decide +kernel
theorem dX2_readPart_195 : decode cX2_readPart 195 = .ok (.iconst (-1), 1) := by decide +kernel
theorem dX2_readPart_196 : decode cX2_readPart 196 = .ok (.if_icmp .eq 16, 3) := by decide +kernel
theorem dX2_readPart_199 : decode cX2_readPart 199 = .ok (.aload_n 0, 1) := by decide +kernel
theorem dX2_readPart_200 : decode cX2_readPart 200 = .ok (.iconst 4, 1) := by decide +kernel
theorem dX2_readPart_201 : decode cX2_readPart 201 = .ok (.iload_n 3, 1) := by decide +kernel
theorem dX2_readPart_202 : decode cX2_readPart 202 = .ok (.invokevirtual 166, 3) := by decide +kernel
theorem dX2_readPart_205 : decode cX2_readPart 205 = .ok (.ifCond .eq 7, 3) := by decide +kernel
theorem dX2_readPart_208 : decode cX2_readPart 208 = .ok (.iconst 1, 1) := by decide +kernel
theorem dX2_readPart_209 : decode cX2_readPart 209 = .ok (.goto 4, 3) := by decide +kernel
theorem dX2_readPart_212 : decode cX2_readPart 212 = .ok (.iconst 0, 1) := by decide +kernel
theorem dX2_readPart_213 : decode cX2_readPart 213 = .ok (.ireturn, 1) := by decide +kernel
theorem dX2_readGlass_0 : decode cX2_readGlass 0 = .ok (.aload_n 0, 1) := by decide +kernel
theorem dX2_readGlass_1 : decode cX2_readGlass 1 = .ok (.getfield 12, 3) := by decide +kernel
theorem dX2_readGlass_4 : decode cX2_readGlass 4 = .ok (.iconst 0, 1) := by decide +kernel
theorem dX2_readGlass_5 : decode cX2_readGlass 5 = .ok (.iconst 5, 1) := by decide +kernel
theorem dX2_readGlass_6 : decode cX2_readGlass 6 = .ok (.invokevirtual 87, 3) := by decide +kernel
theorem dX2_readGlass_9 : decode cX2_readGlass 9 = .ok (.istore_n 3, 1) := by decide +kernel
theorem dX2_readGlass_10 : decode cX2_readGlass 10 = .ok (.iload_n 3, 1) := by decide +kernel
theorem dX2_readGlass_11 : decode cX2_readGlass 11 = .ok (.iconst (-1), 1) := by decide +kernel
theorem dX2_readGlass_12 : decode cX2_readGlass 12 = .ok (.if_icmp .ne 5, 3) := by decide +kernel
theorem dX2_readGlass_15 : decode cX2_readGlass 15 = .ok (.iconst 0, 1) := by decide +kernel
theorem dX2_readGlass_16 : decode cX2_readGlass 16 = .ok (.ireturn, 1) := by decide +kernel
theorem dX2_readGlass_17 : decode cX2_readGlass 17 = .ok (.aload_n 0, 1) := by decide +kernel
theorem dX2_readGlass_18 : decode cX2_readGlass 18 = .ok (.getfield 21, 3) := by decide +kernel
theorem dX2_readGlass_21 : decode cX2_readGlass 21 = .ok (.iload_n 1, 1) := by decide +kernel
theorem dX2_readGlass_22 : decode cX2_readGlass 22 = .ok (.iload_n 3, 1) := by decide +kernel
theorem dX2_readGlass_23 : decode cX2_readGlass 23 = .ok (.iconst 4, 1) := by decide +kernel
theorem dX2_readGlass_24 : decode cX2_readGlass 24 = .ok (.imul, 1) := by decide +kernel
theorem dX2_readGlass_25 : decode cX2_readGlass 25 = .ok (.iload_n 2, 1) := by decide +kernel
theorem dX2_readGlass_26 : decode cX2_readGlass 26 = .ok (.iadd, 1) := by decide +kernel
theorem dX2_readGlass_27 : decode cX2_readGlass 27 = .ok (.invokevirtual 129, 3) := by decide +kernel
theorem dX2_readGlass_30 : decode cX2_readGlass 30 = .ok (.pop, 1) := by decide +kernel
theorem dX2_readGlass_31 : decode cX2_readGlass 31 = .ok (.iconst 1, 1) := by decide +kernel
theorem dX2_readGlass_32 : decode cX2_readGlass 32 = .ok (.ireturn, 1) := by decide +kernel
theorem dX3_init_0 : decode cX3_init 0 = .ok (.aload_n 0, 1) := by decide +kernel
theorem dX3_init_1 : decode cX3_init 1 = .ok (.invokespecial 3, 3) := by decide +kernel
theorem dX3_init_4 : decode cX3_init 4 = .ok (.aload_n 0, 1) := by decide +kernel
theorem dX3_init_5 : decode cX3_init 5 = .ok (.new 9, 3) := by decide +kernel
theorem dX3_init_8 : decode cX3_init 8 = .ok (.dup, 1) := by decide +kernel
theorem dX3_init_9 : decode cX3_init 9 = .ok (.invokespecial 11, 3) := by decide +kernel
theorem dX3_init_12 : decode cX3_init 12 = .ok (.putfield 12, 3) := by decide +kernel
theorem dX3_init_15 : decode cX3_init 15 = .ok (.aload_n 0, 1) := by decide +kernel
theorem dX3_init_16 : decode cX3_init 16 = .ok (.bipush 50, 2) := by decide +kernel
theorem dX3_init_18 : decode cX3_init 18 = .ok (.newarray .long, 2) := by decide +kernel
theorem dX3_init_20 : decode cX3_init 20 = .ok (.putfield 18, 3) := by decide +kernel
theorem dX3_init_23 : decode cX3_init 23 = .ok (.return_, 1) := by decide +kernel
theorem dX3_run_0 : decode cX3_run 0 = .ok (.aload_n 0, 1) := by decide +kernel
theorem dX3_run_1 : decode cX3_run 1 = .ok (.getfield 12, 3) := by decide +kernel
theorem dX3_run_4 : decode cX3_run 4 = .ok (.aload_n 2, 1) := by decide +kernel
theorem dX3_run_5 : decode cX3_run 5 = .ok (.invokevirtual 22, 3) := by decide +kernel
theorem dX3_run_8 : decode cX3_run 8 = .ok (.aload_n 0, 1) := by decide +kernel
theorem dX3_run_9 : decode cX3_run 9 = .ok (.iconst 0, 1) := by decide +kernel
theorem dX3_run_10 : decode cX3_run 10 = .ok (.putfield 26, 3) := by decide +kernel
theorem dX3_run_13 : decode cX3_run 13 = .ok (.aload_n 0, 1) := by decide +kernel
theorem dX3_run_14 : decode cX3_run 14 = .ok (.iconst 0, 1) := by decide +kernel
theorem dX3_run_15 : decode cX3_run 15 = .ok (.putfield 30, 3) := by decide +kernel
theorem dX3_run_18 : decode cX3_run 18 = .ok (.aload_n 0, 1) := by decide +kernel
theorem dX3_run_19 : decode cX3_run 19 = .ok (.getfield 30, 3) := by decide +kernel
theorem dX3_run_22 : decode cX3_run 22 = .ok (.aload_n 1, 1) := by decide +kernel
theorem dX3_run_23 : decode cX3_run 23 = .ok (.getfield 33, 3) := by decide +kernel
theorem dX3_run_26 : decode cX3_run 26 = .ok (.if_icmp .ge 37, 3) := by decide +kernel
theorem dX3_run_29 : decode cX3_run 29 = .ok (.aload_n 0, 1) := by decide +kernel
theorem dX3_run_30 : decode cX3_run 30 = .ok (.aload_n 1, 1) := by decide +kernel
theorem dX3_run_31 : decode cX3_run 31 = .ok (.aload_n 1, 1) := by decide +kernel
theorem dX3_run_32 : decode cX3_run 32 = .ok (.getfield 38, 3) := by decide +kernel
theorem dX3_run_35 : decode cX3_run 35 = .ok (.aload_n 0, 1) := by decide +kernel
theorem dX3_run_36 : decode cX3_run 36 = .ok (.getfield 30, 3) := by decide +kernel
theorem dX3_run_39 : decode cX3_run 39 = .ok (.aaload, 1) := by decide +kernel
theorem dX3_run_40 : decode cX3_run 40 = .ok (.invokevirtual 42, 3) := by decide +kernel
theorem dX3_run_43 : decode cX3_run 43 = .ok (.istore_n 3, 1) := by decide +kernel
theorem dX3_run_44 : decode cX3_run 44 = .ok (.iload_n 3, 1) := by decide +kernel
theorem dX3_run_45 : decode cX3_run 45 = .ok (.ifCond .ge 5, 3) := by decide +kernel
theorem dX3_run_48 : decode cX3_run 48 = .ok (.iload_n 3, 1) := by decide +kernel
theorem dX3_run_49 : decode cX3_run 49 = .ok (.ireturn, 1) := by decide +kernel
theorem dX3_run_50 : decode cX3_run 50 = .ok (.aload_n 0, 1) := by decide +kernel
theorem dX3_run_51 : decode cX3_run 51 = .ok (.dup, 1) := by decide +kernel
theorem dX3_run_52 : decode cX3_run 52 = .ok (.getfield 30, 3) := by decide +kernel
theorem dX3_run_55 : decode cX3_run 55 = .ok (.iconst 1, 1) := by decide +kernel
theorem dX3_run_56 : decode cX3_run 56 = .ok (.iadd, 1) := by decide +kernel
theorem dX3_run_57 : decode cX3_run 57 = .ok (.putfield 30, 3) := by decide +kernel
theorem dX3_run_60 : decode cX3_run 60 = .ok (.goto (-42), 3) := by decide +kernel
theorem dX3_run_63 : decode cX3_run 63 = .ok (.aload_n 0, 1) := by decide +kernel
theorem dX3_run_64 : decode cX3_run 64 = .ok (.getfield 12, 3) := by decide +kernel
theorem dX3_run_67 : decode cX3_run 67 = .ok (.invokevirtual 46, 3) := by decide +kernel
theorem dX3_run_70 : decode cX3_run 70 = .ok (.aload_n 2, 1) := by decide +kernel
theorem dX3_run_71 : decode cX3_run 71 = .ok (.aload_n 0, 1) := by decide +kernel
theorem dX3_run_72 : decode cX3_run 72 = .ok (.getfield 12, 3) := by decide +kernel
theorem dX3_run_75 : decode cX3_run 75 = .ok (.invokevirtual 22, 3) := by decide +kernel
theorem dX3_run_78 : decode cX3_run 78 = .ok (.aload_n 0, 1) := by decide +kernel
theorem dX3_run_79 : decode cX3_run 79 = .ok (.getfield 26, 3) := by decide +kernel
theorem dX3_run_82 : decode cX3_run 82 = .ok (.ireturn, 1) := by decide +kernel
theorem dX3_runClause_0 : decode cX3_runClause 0 = .ok (.iconst 0, 1) := by decide +kernel
theorem dX3_runClause_1 : decode cX3_runClause 1 = .ok (.istore_n 3, 1) := by decide +kernel
theorem dX3_runClause_2 : decode cX3_runClause 2 = .ok (.iload_n 3, 1) := by decide +kernel
theorem dX3_runClause_3 : decode cX3_runClause 3 = .ok (.aload_n 2, 1) := by decide +kernel
theorem dX3_runClause_4 : decode cX3_runClause 4 = .ok (.getfield 49, 3) := by decide +kernel
theorem dX3_runClause_7 : decode cX3_runClause 7 = .ok (.if_icmp .ge 44, 3) := by decide +kernel
theorem dX3_runClause_10 : decode cX3_runClause 10 = .ok (.aload_n 0, 1) := by decide +kernel
theorem dX3_runClause_11 : decode cX3_runClause 11 = .ok (.aload_n 1, 1) := by decide +kernel
theorem dX3_runClause_12 : decode cX3_runClause 12 = .ok (.aload_n 2, 1) := by decide +kernel
theorem dX3_runClause_13 : decode cX3_runClause 13 = .ok (.invokevirtual 54, 3) := by decide +kernel
theorem dX3_runClause_16 : decode cX3_runClause 16 = .ok (.ifCond .eq 29, 3) := by decide +kernel
theorem dX3_runClause_19 : decode cX3_runClause 19 = .ok (.aload_n 0, 1) := by decide +kernel
theorem dX3_runClause_20 : decode cX3_runClause 20 = .ok (.aload_n 1, 1) := by decide +kernel
theorem dX3_runClause_21 : decode cX3_runClause 21 = .ok (.aload_n 2, 1) := by decide +kernel
theorem dX3_runClause_22 : decode cX3_runClause 22 = .ok (.invokevirtual 58, 3) := by decide +kernel
theorem dX3_runClause_25 : decode cX3_runClause 25 = .ok (.istore 4, 2) := by decide +kernel
theorem dX3_runClause_27 : decode cX3_runClause 27 = .ok (.iload 4, 2) := by decide +kernel
theorem dX3_runClause_29 : decode cX3_runClause 29 = .ok (.ifCond .ge 6, 3) := by decide +kernel
theorem dX3_runClause_32 : decode cX3_runClause 32 = .ok (.iload 4, 2) := by decide +kernel
theorem dX3_runClause_34 : decode cX3_runClause 34 = .ok (.ireturn, 1) := by decide +kernel
theorem dX3_runClause_35 : decode cX3_runClause 35 = .ok (.aload_n 0, 1) := by decide +kernel
theorem dX3_runClause_36 : decode cX3_runClause 36 = .ok (.dup, 1) := by decide +kernel
theorem dX3_runClause_37 : decode cX3_runClause 37 = .ok (.getfield 26, 3) := by decide +kernel
theorem dX3_runClause_40 : decode cX3_runClause 40 = .ok (.iconst 1, 1) := by decide +kernel
theorem dX3_runClause_41 : decode cX3_runClause 41 = .ok (.iadd, 1) := by decide +kernel
theorem dX3_runClause_42 : decode cX3_runClause 42 = .ok (.putfield 26, 3) := by decide +kernel
theorem dX3_runClause_45 : decode cX3_runClause 45 = .ok (.iinc 3 1, 3) := by decide +kernel
theorem dX3_runClause_48 : decode cX3_runClause 48 = .ok (.goto (-46), 3) := by decide +kernel
theorem dX3_runClause_51 : decode cX3_runClause 51 = .ok (.iconst 0, 1) := by decide +kernel
theorem dX3_runClause_52 : decode cX3_runClause 52 = .ok (.ireturn, 1) := by decide +kernel
theorem dX3_isSo_0 : decode cX3_isSo 0 = .ok (.aload_n 2, 1) := by decide +kernel
theorem dX3_isSo_1 : decode cX3_isSo 1 = .ok (.getfield 61, 3) := by decide +kernel
theorem dX3_isSo_4 : decode cX3_isSo 4 = .ok (.aload_n 2, 1) := by decide +kernel
theorem dX3_isSo_5 : decode cX3_isSo 5 = .ok (.getfield 64, 3) := by decide +kernel
theorem dX3_isSo_8 : decode cX3_isSo 8 = .ok (.if_icmp .gt 5, 3) := by decide +kernel
theorem dX3_isSo_11 : decode cX3_isSo 11 = .ok (.iconst 1, 1) := by decide +kernel
theorem dX3_isSo_12 : decode cX3_isSo 12 = .ok (.ireturn, 1) := by decide +kernel
theorem dX3_isSo_13 : decode cX3_isSo 13 = .ok (.aload_n 0, 1) := by decide +kernel
theorem dX3_isSo_14 : decode cX3_isSo 14 = .ok (.aload_n 1, 1) := by decide +kernel
theorem dX3_isSo_15 : decode cX3_isSo 15 = .ok (.aload_n 2, 1) := by decide +kernel
theorem dX3_isSo_16 : decode cX3_isSo 16 = .ok (.getfield 64, 3) := by decide +kernel
theorem dX3_isSo_19 : decode cX3_isSo 19 = .ok (.aload_n 2, 1) := by decide +kernel
theorem dX3_isSo_20 : decode cX3_isSo 20 = .ok (.getfield 61, 3) := by decide +kernel
theorem dX3_isSo_23 : decode cX3_isSo 23 = .ok (.invokevirtual 67, 3) := by decide +kernel
theorem dX3_isSo_26 : decode cX3_isSo 26 = .ok (.ifCond .eq 18, 3) := by decide +kernel
theorem dX3_isSo_29 : decode cX3_isSo 29 = .ok (.aload_n 0, 1) := by decide +kernel
theorem dX3_isSo_30 : decode cX3_isSo 30 = .ok (.getfield 18, 3) := by decide +kernel
theorem dX3_isSo_33 : decode cX3_isSo 33 = .ok (.iconst 0, 1) := by decide +kernel
theorem dX3_isSo_34 : decode cX3_isSo 34 = .ok (.laload, 1) := by decide +kernel
theorem dX3_isSo_35 : decode cX3_isSo 35 = .ok (.lconst 0, 1) := by decide +kernel
theorem dX3_isSo_36 : decode cX3_isSo 36 = .ok (.lcmp, 1) := by decide +kernel
theorem dX3_isSo_37 : decode cX3_isSo 37 = .ok (.ifCond .eq 7, 3) := by decide +kernel
theorem dX3_isSo_40 : decode cX3_isSo 40 = .ok (.iconst 1, 1) := by decide +kernel
theorem dX3_isSo_41 : decode cX3_isSo 41 = .ok (.goto 4, 3) := by decide +kernel
theorem dX3_isSo_44 : decode cX3_isSo 44 = .ok (.iconst 0, 1) := by decide +kernel
theorem dX3_isSo_45 : decode cX3_isSo 45 = .ok (.ireturn, 1) := by decide +kernel
theorem dX3_move_0 : decode cX3_move 0 = .ok (.aload_n 0, 1) := by decide +kernel
theorem dX3_move_1 : decode cX3_move 1 = .ok (.aload_n 1, 1) := by decide +kernel
theorem dX3_move_2 : decode cX3_move 2 = .ok (.aload_n 2, 1) := by decide +kernel
theorem dX3_move_3 : decode cX3_move 3 = .ok (.getfield 71, 3) := by decide +kernel
theorem dX3_move_6 : decode cX3_move 6 = .ok (.aload_n 2, 1) := by decide +kernel
theorem dX3_move_7 : decode cX3_move 7 = .ok (.getfield 64, 3) := by decide +kernel
theorem dX3_move_10 : decode cX3_move 10 = .ok (.invokevirtual 67, 3) := by decide +kernel
theorem dX3_move_13 : decode cX3_move 13 = .ok (.ifCond .eq 27, 3) := by decide +kernel
theorem dX3_move_16 : decode cX3_move 16 = .ok (.aload_n 0, 1) := by decide +kernel
theorem dX3_move_17 : decode cX3_move 17 = .ok (.getfield 18, 3) := by decide +kernel
theorem dX3_move_20 : decode cX3_move 20 = .ok (.iconst 0, 1) := by decide +kernel
theorem dX3_move_21 : decode cX3_move 21 = .ok (.laload, 1) := by decide +kernel
theorem dX3_move_22 : decode cX3_move 22 = .ok (.lconst 1, 1) := by decide +kernel
theorem dX3_move_23 : decode cX3_move 23 = .ok (.lcmp, 1) := by decide +kernel
theorem dX3_move_24 : decode cX3_move 24 = .ok (.ifCond .lt 16, 3) := by decide +kernel
theorem dX3_move_27 : decode cX3_move 27 = .ok (.aload_n 0, 1) := by decide +kernel
theorem dX3_move_28 : decode cX3_move 28 = .ok (.getfield 18, 3) := by decide +kernel
theorem dX3_move_31 : decode cX3_move 31 = .ok (.iconst 0, 1) := by decide +kernel
theorem dX3_move_32 : decode cX3_move 32 = .ok (.laload, 1) := by decide +kernel
theorem dX3_move_33 : decode cX3_move 33 = .ok (.ldc2_w 74, 3) := by decide +kernel
theorem dX3_move_36 : decode cX3_move 36 = .ok (.lcmp, 1) := by decide +kernel
theorem dX3_move_37 : decode cX3_move 37 = .ok (.ifCond .le 6, 3) := by decide +kernel
theorem dX3_move_40 : decode cX3_move 40 = .ok (.bipush (-3), 2) := by decide +kernel
theorem dX3_move_42 : decode cX3_move 42 = .ok (.ireturn, 1) := by decide +kernel
theorem dX3_move_43 : decode cX3_move 43 = .ok (.aload_n 0, 1) := by decide +kernel
theorem dX3_move_44 : decode cX3_move 44 = .ok (.getfield 18, 3) := by decide +kernel
theorem dX3_move_47 : decode cX3_move 47 = .ok (.iconst 0, 1) := by decide +kernel
theorem dX3_move_48 : decode cX3_move 48 = .ok (.laload, 1) := by decide +kernel
theorem dX3_move_49 : decode cX3_move 49 = .ok (.l2i, 1) := by decide +kernel
theorem dX3_move_50 : decode cX3_move 50 = .ok (.istore_n 3, 1) := by decide +kernel
theorem dX3_move_51 : decode cX3_move 51 = .ok (.aload_n 2, 1) := by decide +kernel
theorem dX3_move_52 : decode cX3_move 52 = .ok (.getfield 76, 3) := by decide +kernel
theorem dX3_move_55 : decode cX3_move 55 = .ok (.lookupswitch 55 #[(0, 25), (1, 42)], 25) := by decide +kernel
theorem dX3_move_80 : decode cX3_move 80 = .ok (.aload_n 0, 1) := by decide +kernel
theorem dX3_move_81 : decode cX3_move 81 = .ok (.getfield 12, 3) := by decide +kernel
theorem dX3_move_84 : decode cX3_move 84 = .ok (.aload_n 2, 1) := by decide +kernel
theorem dX3_move_85 : decode cX3_move 85 = .ok (.getfield 79, 3) := by decide +kernel
theorem dX3_move_88 : decode cX3_move 88 = .ok (.aload_n 2, 1) := by decide +kernel
theorem dX3_move_89 : decode cX3_move 89 = .ok (.getfield 82, 3) := by decide +kernel
theorem dX3_move_92 : decode cX3_move 92 = .ok (.iload_n 3, 1) := by decide +kernel
theorem dX3_move_93 : decode cX3_move 93 = .ok (.invokevirtual 85, 3) := by decide +kernel
theorem dX3_move_96 : decode cX3_move 96 = .ok (.ireturn, 1) := by decide +kernel
theorem dX3_move_97 : decode cX3_move 97 = .ok (.aload_n 0, 1) := by decide +kernel
theorem dX3_move_98 : decode cX3_move 98 = .ok (.getfield 12, 3) := by decide +kernel
theorem dX3_move_101 : decode cX3_move 101 = .ok (.aload_n 2, 1) := by decide +kernel
theorem dX3_move_102 : decode cX3_move 102 = .ok (.getfield 79, 3) := by decide +kernel
theorem dX3_move_105 : decode cX3_move 105 = .ok (.iload_n 3, 1) := by decide +kernel
theorem dX3_move_106 : decode cX3_move 106 = .ok (.invokevirtual 89, 3) := by decide +kernel
theorem dX3_move_109 : decode cX3_move 109 = .ok (.ireturn, 1) := by decide +kernel
theorem dX3_move_110 : decode cX3_move 110 = .ok (.aload_n 0, 1) := by decide +kernel
theorem dX3_move_111 : decode cX3_move 111 = .ok (.getfield 12, 3) := by decide +kernel
theorem dX3_move_114 : decode cX3_move 114 = .ok (.aload_n 2, 1) := by decide +kernel
theorem dX3_move_115 : decode cX3_move 115 = .ok (.getfield 82, 3) := by decide +kernel
theorem dX3_move_118 : decode cX3_move 118 = .ok (.aload_n 2, 1) := by decide +kernel
theorem dX3_move_119 : decode cX3_move 119 = .ok (.getfield 93, 3) := by decide +kernel
theorem dX3_move_122 : decode cX3_move 122 = .ok (.iload_n 3, 1) := by decide +kernel
theorem dX3_move_123 : decode cX3_move 123 = .ok (.invokevirtual 96, 3) := by decide +kernel
theorem dX3_move_126 : decode cX3_move 126 = .ok (.ireturn, 1) := by decide +kernel
theorem dX3_works_0 : decode cX3_works 0 = .ok (.aload_n 0, 1) := by decide +kernel
theorem dX3_works_1 : decode cX3_works 1 = .ok (.iconst 0, 1) := by decide +kernel
theorem dX3_works_2 : decode cX3_works 2 = .ok (.putfield 99, 3) := by decide +kernel
theorem dX3_works_5 : decode cX3_works 5 = .ok (.iload_n 2, 1) := by decide +kernel
theorem dX3_works_6 : decode cX3_works 6 = .ok (.istore 4, 2) := by decide +kernel
theorem dX3_works_8 : decode cX3_works 8 = .ok (.iload_n 2, 1) := by decide +kernel
theorem dX3_works_9 : decode cX3_works 9 = .ok (.istore 5, 2) := by decide +kernel
theorem dX3_works_11 : decode cX3_works 11 = .ok (.iload 5, 2) := by decide +kernel
theorem dX3_works_13 : decode cX3_works 13 = .ok (.iload_n 3, 1) := by decide +kernel
theorem dX3_works_14 : decode cX3_works 14 = .ok (.if_icmp .ge 94, 3) := by decide +kernel
theorem dX3_works_17 : decode cX3_works 17 = .ok (.iload 5, 2) := by decide +kernel
theorem dX3_works_19 : decode cX3_works 19 = .ok (.aload_n 1, 1) := by decide +kernel
theorem dX3_works_20 : decode cX3_works 20 = .ok (.getfield 102, 3) := by decide +kernel
theorem dX3_works_23 : decode cX3_works 23 = .ok (.if_icmp .ge 85, 3) := by decide +kernel
theorem dX3_works_26 : decode cX3_works 26 = .ok (.aload_n 1, 1) := by decide +kernel
theorem dX3_works_27 : decode cX3_works 27 = .ok (.getfield 105, 3) := by decide +kernel
theorem dX3_works_30 : decode cX3_works 30 = .ok (.iload 5, 2) := by decide +kernel
theorem dX3_works_32 : decode cX3_works 32 = .ok (.iaload, 1) := by decide +kernel
theorem dX3_works_33 : decode cX3_works 33 = .ok (.istore 6, 2) := by decide +kernel
theorem dX3_works_35 : decode cX3_works 35 = .ok (.aload_n 1, 1) := by decide +kernel
theorem dX3_works_36 : decode cX3_works 36 = .ok (.getfield 109, 3) := by decide +kernel
theorem dX3_works_39 : decode cX3_works 39 = .ok (.iload 5, 2) := by decide +kernel
theorem dX3_works_41 : decode cX3_works 41 = .ok (.iaload, 1) := by decide +kernel
theorem dX3_works_42 : decode cX3_works 42 = .ok (.istore 7, 2) := by decide +kernel
theorem dX3_works_44 : decode cX3_works 44 = .ok (.iload 5, 2) := by decide +kernel
theorem dX3_works_46 : decode cX3_works 46 = .ok (.iload 4, 2) := by decide +kernel
theorem dX3_works_48 : decode cX3_works 48 = .ok (.if_icmp .ge 6, 3) := by decide +kernel
theorem dX3_works_51 : decode cX3_works 51 = .ok (.goto 51, 3) := by decide +kernel
theorem dX3_works_54 : decode cX3_works 54 = .ok (.iload 6, 2) := by decide +kernel
theorem dX3_works_56 : decode cX3_works 56 = .ok (.bipush 14, 2) := by decide +kernel
theorem dX3_works_58 : decode cX3_works 58 = .ok (.if_icmp .eq 10, 3) := by decide +kernel
theorem dX3_works_61 : decode cX3_works 61 = .ok (.iload 6, 2) := by decide +kernel
theorem dX3_works_63 : decode cX3_works 63 = .ok (.bipush 15, 2) := by decide +kernel
theorem dX3_works_65 : decode cX3_works 65 = .ok (.if_icmp .ne 24, 3) := by decide +kernel
theorem dX3_works_68 : decode cX3_works 68 = .ok (.aload_n 0, 1) := by decide +kernel
theorem dX3_works_69 : decode cX3_works 69 = .ok (.iload 6, 2) := by decide +kernel
theorem dX3_works_71 : decode cX3_works 71 = .ok (.invokevirtual 112, 3) := by decide +kernel
theorem dX3_works_74 : decode cX3_works 74 = .ok (.ifCond .eq 8, 3) := by decide +kernel
theorem dX3_works_77 : decode cX3_works 77 = .ok (.iload 7, 2) := by decide +kernel
theorem dX3_works_79 : decode cX3_works 79 = .ok (.goto 5, 3) := by decide +kernel
theorem dX3_works_82 : decode cX3_works 82 = .ok (.iload 4, 2) := by decide +kernel
theorem dX3_works_84 : decode cX3_works 84 = .ok (.istore 4, 2) := by decide +kernel
theorem dX3_works_86 : decode cX3_works 86 = .ok (.goto 16, 3) := by decide +kernel
theorem dX3_works_89 : decode cX3_works 89 = .ok (.aload_n 0, 1) := by decide +kernel
theorem dX3_works_90 : decode cX3_works 90 = .ok (.iload 6, 2) := by decide +kernel
theorem dX3_works_92 : decode cX3_works 92 = .ok (.iload 7, 2) := by decide +kernel
theorem dX3_works_94 : decode cX3_works 94 = .ok (.invokevirtual 116, 3) := by decide +kernel
theorem dX3_works_97 : decode cX3_works 97 = .ok (.ifCond .ne 5, 3) := by decide +kernel
theorem dX3_works_100 : decode cX3_works 100 = .ok (.iconst 0, 1) := by decide +kernel
theorem dX3_works_101 : decode cX3_works 101 = .ok (.ireturn, 1) := by decide +kernel
theorem dX3_works_102 : decode cX3_works 102 = .ok (.iinc 5 1, 3) := by decide +kernel
theorem dX3_works_105 : decode cX3_works 105 = .ok (.goto (-94), 3) := by decide +kernel
theorem dX3_works_108 : decode cX3_works 108 = .ok (.aload_n 0, 1) := by decide +kernel
theorem dX3_works_109 : decode cX3_works 109 = .ok (.getfield 99, 3) := by decide +kernel
theorem dX3_works_112 : decode cX3_works 112 = .ok (.iconst 1, 1) := by decide +kernel
theorem dX3_works_113 : decode cX3_works 113 = .ok (.if_icmp .ne 7, 3) := by decide +kernel
theorem dX3_works_116 : decode cX3_works 116 = .ok (.iconst 1, 1) := by decide +kernel
theorem dX3_works_117 : decode cX3_works 117 = .ok (.goto 4, 3) := by decide +kernel
theorem dX3_works_120 : decode cX3_works 120 = .ok (.iconst 0, 1) := by decide +kernel
theorem dX3_works_121 : decode cX3_works 121 = .ok (.ireturn, 1) := by decide +kernel
theorem dX3_isSettled_0 : decode cX3_isSettled 0 = .ok (.aload_n 0, 1) := by decide +kernel
theorem dX3_isSettled_1 : decode cX3_isSettled 1 = .ok (.getfield 99, 3) := by decide +kernel
theorem dX3_isSettled_4 : decode cX3_isSettled 4 = .ok (.iconst 1, 1) := by decide +kernel
theorem dX3_isSettled_5 : decode cX3_isSettled 5 = .ok (.if_icmp .ge 5, 3) := by decide +kernel
theorem dX3_isSettled_8 : decode cX3_isSettled 8 = .ok (.iconst 0, 1) := by decide +kernel
theorem dX3_isSettled_9 : decode cX3_isSettled 9 = .ok (.ireturn, 1) := by decide +kernel
theorem dX3_isSettled_10 : decode cX3_isSettled 10 = .ok (.aload_n 0, 1) := by decide +kernel
theorem dX3_isSettled_11 : decode cX3_isSettled 11 = .ok (.getfield 18, 3) := by decide +kernel
theorem dX3_isSettled_14 : decode cX3_isSettled 14 = .ok (.aload_n 0, 1) := by decide +kernel
theorem dX3_isSettled_15 : decode cX3_isSettled 15 = .ok (.getfield 99, 3) := by decide +kernel
theorem dX3_isSettled_18 : decode cX3_isSettled 18 = .ok (.iconst 1, 1) := by decide +kernel
theorem dX3_isSettled_19 : decode cX3_isSettled 19 = .ok (.isub, 1) := by decide +kernel
theorem dX3_isSettled_20 : decode cX3_isSettled 20 = .ok (.laload, 1) := by decide +kernel
theorem dX3_isSettled_21 : decode cX3_isSettled 21 = .ok (.lconst 0, 1) := by decide +kernel
theorem dX3_isSettled_22 : decode cX3_isSettled 22 = .ok (.lcmp, 1) := by decide +kernel
theorem dX3_isSettled_23 : decode cX3_isSettled 23 = .ok (.ifCond .eq 7, 3) := by decide +kernel
theorem dX3_isSettled_26 : decode cX3_isSettled 26 = .ok (.iconst 1, 1) := by decide +kernel
theorem dX3_isSettled_27 : decode cX3_isSettled 27 = .ok (.goto 4, 3) := by decide +kernel
theorem dX3_isSettled_30 : decode cX3_isSettled 30 = .ok (.iconst 0, 1) := by decide +kernel
theorem dX3_isSettled_31 : decode cX3_isSettled 31 = .ok (.iload_n 1, 1) := by decide +kernel
theorem dX3_isSettled_32 : decode cX3_isSettled 32 = .ok (.bipush 15, 2) := by decide +kernel
theorem dX3_isSettled_34 : decode cX3_isSettled 34 = .ok (.if_icmp .ne 7, 3) := by decide +kernel
theorem dX3_isSettled_37 : decode cX3_isSettled 37 = .ok (.iconst 1, 1) := by decide +kernel
theorem dX3_isSettled_38 : decode cX3_isSettled 38 = .ok (.goto 4, 3) := by decide +kernel
theorem dX3_isSettled_41 : decode cX3_isSettled 41 = .ok (.iconst 0, 1) := by decide +kernel
theorem dX3_isSettled_42 : decode cX3_isSettled 42 = .ok (.if_icmp .ne 7, 3) := by decide +kernel
theorem dX3_isSettled_45 : decode cX3_isSettled 45 = .ok (.iconst 1, 1) := by decide +kernel
theorem dX3_isSettled_46 : decode cX3_isSettled 46 = .ok (.goto 4, 3) := by decide +kernel
theorem dX3_isSettled_49 : decode cX3_isSettled 49 = .ok (.iconst 0, 1) := by decide +kernel
theorem dX3_isSettled_50 : decode cX3_isSettled 50 = .ok (.istore_n 2, 1) := by decide +kernel
theorem dX3_isSettled_51 : decode cX3_isSettled 51 = .ok (.iload_n 2, 1) := by decide +kernel
theorem dX3_isSettled_52 : decode cX3_isSettled 52 = .ok (.ifCond .ne 13, 3) := by decide +kernel
theorem dX3_isSettled_55 : decode cX3_isSettled 55 = .ok (.aload_n 0, 1) := by decide +kernel
theorem dX3_isSettled_56 : decode cX3_isSettled 56 = .ok (.dup, 1) := by decide +kernel
theorem dX3_isSettled_57 : decode cX3_isSettled 57 = .ok (.getfield 99, 3) := by decide +kernel
theorem dX3_isSettled_60 : decode cX3_isSettled 60 = .ok (.iconst 1, 1) := by decide +kernel
theorem dX3_isSettled_61 : decode cX3_isSettled 61 = .ok (.isub, 1) := by decide +kernel
theorem dX3_isSettled_62 : decode cX3_isSettled 62 = .ok (.putfield 99, 3) := by decide +kernel
theorem dX3_isSettled_65 : decode cX3_isSettled 65 = .ok (.iload_n 2, 1) := by decide +kernel
theorem dX3_isSettled_66 : decode cX3_isSettled 66 = .ok (.ireturn, 1) := by decide +kernel
theorem dX3_work_0 : decode cX3_work 0 = .ok (.iload_n 2, 1) := by decide +kernel
theorem dX3_work_1 : decode cX3_work 1 = .ok (.iconst 4, 1) := by decide +kernel
theorem dX3_work_2 : decode cX3_work 2 = .ok (.idiv, 1) := by decide +kernel
theorem dX3_work_3 : decode cX3_work 3 = .ok (.istore_n 3, 1) := by decide +kernel
theorem dX3_work_4 : decode cX3_work 4 = .ok (.iload_n 1, 1) := by decide +kernel
theorem dX3_work_5 : decode cX3_work 5 = .ok (.tableswitch 140 1 13 #[67, 74, 88, 102, 119, 140, 140, 140, 140, 140, 140, 140, 129], 67) := by decide +kernel
theorem dX3_work_72 : decode cX3_work 72 = .ok (.aload_n 0, 1) := by decide +kernel
theorem dX3_work_73 : decode cX3_work 73 = .ok (.iload_n 2, 1) := by decide +kernel
theorem dX3_work_74 : decode cX3_work 74 = .ok (.i2l, 1) := by decide +kernel
theorem dX3_work_75 : decode cX3_work 75 = .ok (.invokevirtual 120, 3) := by decide +kernel
theorem dX3_work_78 : decode cX3_work 78 = .ok (.ireturn, 1) := by decide +kernel
theorem dX3_work_79 : decode cX3_work 79 = .ok (.aload_n 0, 1) := by decide +kernel
theorem dX3_work_80 : decode cX3_work 80 = .ok (.aload_n 0, 1) := by decide +kernel
theorem dX3_work_81 : decode cX3_work 81 = .ok (.getfield 12, 3) := by decide +kernel
theorem dX3_work_84 : decode cX3_work 84 = .ok (.iload_n 3, 1) := by decide +kernel
theorem dX3_work_85 : decode cX3_work 85 = .ok (.invokevirtual 124, 3) := by decide +kernel
theorem dX3_work_88 : decode cX3_work 88 = .ok (.i2l, 1) := by decide +kernel
theorem dX3_work_89 : decode cX3_work 89 = .ok (.invokevirtual 120, 3) := by decide +kernel
theorem dX3_work_92 : decode cX3_work 92 = .ok (.ireturn, 1) := by decide +kernel
theorem dX3_work_93 : decode cX3_work 93 = .ok (.aload_n 0, 1) := by decide +kernel
theorem dX3_work_94 : decode cX3_work 94 = .ok (.aload_n 0, 1) := by decide +kernel
theorem dX3_work_95 : decode cX3_work 95 = .ok (.getfield 12, 3) := by decide +kernel
theorem dX3_work_98 : decode cX3_work 98 = .ok (.iload_n 3, 1) := by decide +kernel
theorem dX3_work_99 : decode cX3_work 99 = .ok (.invokevirtual 128, 3) := by decide +kernel
theorem dX3_work_102 : decode cX3_work 102 = .ok (.i2l, 1) := by decide +kernel
theorem dX3_work_103 : decode cX3_work 103 = .ok (.invokevirtual 120, 3) := by decide +kernel
theorem dX3_work_106 : decode cX3_work 106 = .ok (.ireturn, 1) := by decide +kernel
theorem dX3_work_107 : decode cX3_work 107 = .ok (.aload_n 0, 1) := by decide +kernel
theorem dX3_work_108 : decode cX3_work 108 = .ok (.aload_n 0, 1) := by decide +kernel
theorem dX3_work_109 : decode cX3_work 109 = .ok (.getfield 12, 3) := by decide +kernel
theorem dX3_work_112 : decode cX3_work 112 = .ok (.iload_n 3, 1) := by decide +kernel
theorem dX3_work_113 : decode cX3_work 113 = .ok (.iload_n 2, 1) := by decide +kernel
theorem dX3_work_114 : decode cX3_work 114 = .ok (.iconst 4, 1) := by decide +kernel
theorem dX3_work_115 : decode cX3_work 115 = .ok (.irem, 1) := by decide +kernel
theorem dX3_work_116 : decode cX3_work 116 = .ok (.invokevirtual 131, 3) := by decide +kernel
theorem dX3_work_119 : decode cX3_work 119 = .ok (.i2l, 1) := by decide +kernel
theorem dX3_work_120 : decode cX3_work 120 = .ok (.invokevirtual 120, 3) := by decide +kernel
theorem dX3_work_123 : decode cX3_work 123 = .ok (.ireturn, 1) := by decide +kernel
theorem dX3_work_124 : decode cX3_work 124 = .ok (.aload_n 0, 1) := by decide +kernel
theorem dX3_work_125 : decode cX3_work 125 = .ok (.aload_n 0, 1) := by decide +kernel
theorem dX3_work_126 : decode cX3_work 126 = .ok (.getfield 26, 3) := by decide +kernel
theorem dX3_work_129 : decode cX3_work 129 = .ok (.i2l, 1) := by decide +kernel
theorem dX3_work_130 : decode cX3_work 130 = .ok (.invokevirtual 120, 3) := by decide +kernel
theorem dX3_work_133 : decode cX3_work 133 = .ok (.ireturn, 1) := by decide +kernel
theorem dX3_work_134 : decode cX3_work 134 = .ok (.aload_n 0, 1) := by decide +kernel
theorem dX3_work_135 : decode cX3_work 135 = .ok (.lconst 1, 1) := by decide +kernel
theorem dX3_work_136 : decode cX3_work 136 = .ok (.aload_n 0, 1) := by decide +kernel
theorem dX3_work_137 : decode cX3_work 137 = .ok (.invokevirtual 134, 3) := by decide +kernel
theorem dX3_work_140 : decode cX3_work 140 = .ok (.lsub, 1) := by decide +kernel
theorem dX3_work_141 : decode cX3_work 141 = .ok (.invokevirtual 120, 3) := by decide +kernel
theorem dX3_work_144 : decode cX3_work 144 = .ok (.ireturn, 1) := by decide +kernel
theorem dX3_work_145 : decode cX3_work 145 = .ok (.aload_n 0, 1) := by decide +kernel
theorem dX3_work_146 : decode cX3_work 146 = .ok (.iload_n 1, 1) := by decide +kernel
theorem dX3_work_147 : decode cX3_work 147 = .ok (.aload_n 0, 1) := by decide +kernel
theorem dX3_work_148 : decode cX3_work 148 = .ok (.invokevirtual 134, 3) := by decide +kernel
theorem dX3_work_151 : decode cX3_work 151 = .ok (.aload_n 0, 1) := by decide +kernel
theorem dX3_work_152 : decode cX3_work 152 = .ok (.invokevirtual 134, 3) := by decide +kernel
theorem dX3_work_155 : decode cX3_work 155 = .ok (.invokestatic 138, 3) := by decide +kernel
theorem dX3_work_158 : decode cX3_work 158 = .ok (.invokevirtual 120, 3) := by decide +kernel
theorem dX3_work_161 : decode cX3_work 161 = .ok (.ireturn, 1) := by decide +kernel
theorem dX3_combined_0 : decode cX3_combined 0 = .ok (.iload_n 0, 1) := by decide +kernel
theorem dX3_combined_1 : decode cX3_combined 1 = .ok (.tableswitch 91 6 11 #[39, 43, 47, 51, 67, 79], 39) := by decide +kernel
theorem dX3_combined_40 : decode cX3_combined 40 = .ok (.lload_n 3, 1) := by decide +kernel
theorem dX3_combined_41 : decode cX3_combined 41 = .ok (.lload_n 1, 1) := by decide +kernel
theorem dX3_combined_42 : decode cX3_combined 42 = .ok (.ladd, 1) := by decide +kernel
theorem dX3_combined_43 : decode cX3_combined 43 = .ok (.lreturn, 1) := by decide +kernel
theorem dX3_combined_44 : decode cX3_combined 44 = .ok (.lload_n 3, 1) := by decide +kernel
theorem dX3_combined_45 : decode cX3_combined 45 = .ok (.lload_n 1, 1) := by decide +kernel
theorem dX3_combined_46 : decode cX3_combined 46 = .ok (.lsub, 1) := by decide +kernel
theorem dX3_combined_47 : decode cX3_combined 47 = .ok (.lreturn, 1) := by decide +kernel
theorem dX3_combined_48 : decode cX3_combined 48 = .ok (.lload_n 3, 1) := by decide +kernel
theorem dX3_combined_49 : decode cX3_combined 49 = .ok (.lload_n 1, 1) := by decide +kernel
theorem dX3_combined_50 : decode cX3_combined 50 = .ok (.lmul, 1) := by decide +kernel
theorem dX3_combined_51 : decode cX3_combined 51 = .ok (.lreturn, 1) := by decide +kernel
theorem dX3_combined_52 : decode cX3_combined 52 = .ok (.lload_n 1, 1) := by decide +kernel
theorem dX3_combined_53 : decode cX3_combined 53 = .ok (.lconst 0, 1) := by decide +kernel
theorem dX3_combined_54 : decode cX3_combined 54 = .ok (.lcmp, 1) := by decide +kernel
theorem dX3_combined_55 : decode cX3_combined 55 = .ok (.ifCond .ne 9, 3) := by decide +kernel
theorem dX3_combined_58 : decode cX3_combined 58 = .ok (.ldc2_w 142, 3) := by decide +kernel
theorem dX3_combined_61 : decode cX3_combined 61 = .ok (.goto 6, 3) := by decide +kernel
theorem dX3_combined_64 : decode cX3_combined 64 = .ok (.lload_n 3, 1) := by decide +kernel
theorem dX3_combined_65 : decode cX3_combined 65 = .ok (.lload_n 1, 1) := by decide +kernel
theorem dX3_combined_66 : decode cX3_combined 66 = .ok (.ldiv, 1) := by decide +kernel
theorem dX3_combined_67 : decode cX3_combined 67 = .ok (.lreturn, 1) := by decide +kernel
theorem dX3_combined_68 : decode cX3_combined 68 = .ok (.lload_n 3, 1) := by decide +kernel
theorem dX3_combined_69 : decode cX3_combined 69 = .ok (.lload_n 1, 1) := by decide +kernel
theorem dX3_combined_70 : decode cX3_combined 70 = .ok (.lcmp, 1) := by decide +kernel
theorem dX3_combined_71 : decode cX3_combined 71 = .ok (.ifCond .ge 7, 3) := by decide +kernel
theorem dX3_combined_74 : decode cX3_combined 74 = .ok (.lconst 1, 1) := by decide +kernel
theorem dX3_combined_75 : decode cX3_combined 75 = .ok (.goto 4, 3) := by decide +kernel
theorem dX3_combined_78 : decode cX3_combined 78 = .ok (.lconst 0, 1) := by decide +kernel
theorem dX3_combined_79 : decode cX3_combined 79 = .ok (.lreturn, 1) := by decide +kernel
theorem dX3_combined_80 : decode cX3_combined 80 = .ok (.lload_n 3, 1) := by decide +kernel
theorem dX3_combined_81 : decode cX3_combined 81 = .ok (.lload_n 1, 1) := by decide +kernel
theorem dX3_combined_82 : decode cX3_combined 82 = .ok (.lcmp, 1) := by decide +kernel
theorem dX3_combined_83 : decode cX3_combined 83 = .ok (.ifCond .le 7, 3) := by decide +kernel
theorem dX3_combined_86 : decode cX3_combined 86 = .ok (.lconst 1, 1) := by decide +kernel
theorem dX3_combined_87 : decode cX3_combined 87 = .ok (.goto 4, 3) := by decide +kernel
theorem dX3_combined_90 : decode cX3_combined 90 = .ok (.lconst 0, 1) := by decide +kernel
theorem dX3_combined_91 : decode cX3_combined 91 = .ok (.lreturn, 1) := by decide +kernel
theorem dX3_combined_92 : decode cX3_combined 92 = .ok (.lload_n 3, 1) := by decide +kernel
theorem dX3_combined_93 : decode cX3_combined 93 = .ok (.lload_n 1, 1) := by decide +kernel
theorem dX3_combined_94 : decode cX3_combined 94 = .ok (.lcmp, 1) := by decide +kernel
theorem dX3_combined_95 : decode cX3_combined 95 = .ok (.ifCond .ne 7, 3) := by decide +kernel
theorem dX3_combined_98 : decode cX3_combined 98 = .ok (.lconst 1, 1) := by decide +kernel
theorem dX3_combined_99 : decode cX3_combined 99 = .ok (.goto 4, 3) := by decide +kernel
theorem dX3_combined_102 : decode cX3_combined 102 = .ok (.lconst 0, 1) := by decide +kernel
theorem dX3_combined_103 : decode cX3_combined 103 = .ok (.lreturn, 1) := by decide +kernel
theorem dX3_push_0 : decode cX3_push 0 = .ok (.aload_n 0, 1) := by decide +kernel
theorem dX3_push_1 : decode cX3_push 1 = .ok (.getfield 99, 3) := by decide +kernel
theorem dX3_push_4 : decode cX3_push 4 = .ok (.bipush 50, 2) := by decide +kernel
theorem dX3_push_6 : decode cX3_push 6 = .ok (.if_icmp .ge 19, 3) := by decide +kernel
theorem dX3_push_9 : decode cX3_push 9 = .ok (.lload_n 1, 1) := by decide +kernel
theorem dX3_push_10 : decode cX3_push 10 = .ok (.ldc2_w 144, 3) := by decide +kernel
theorem dX3_push_13 : decode cX3_push 13 = .ok (.lcmp, 1) := by decide +kernel
theorem dX3_push_14 : decode cX3_push 14 = .ok (.ifCond .gt 11, 3) := by decide +kernel
theorem dX3_push_17 : decode cX3_push 17 = .ok (.lload_n 1, 1) := by decide +kernel
theorem dX3_push_18 : decode cX3_push 18 = .ok (.ldc2_w 146, 3) := by decide +kernel
theorem dX3_push_21 : decode cX3_push 21 = .ok (.lcmp, 1) := by decide +kernel
theorem dX3_push_22 : decode cX3_push 22 = .ok (.ifCond .ge 5, 3) := by decide +kernel
theorem dX3_push_25 : decode cX3_push 25 = .ok (.iconst 0, 1) := by decide +kernel
theorem dX3_push_26 : decode cX3_push 26 = .ok (.ireturn, 1) := by decide +kernel
theorem dX3_push_27 : decode cX3_push 27 = .ok (.aload_n 0, 1) := by decide +kernel
theorem dX3_push_28 : decode cX3_push 28 = .ok (.getfield 18, 3) := by decide +kernel
theorem dX3_push_31 : decode cX3_push 31 = .ok (.aload_n 0, 1) := by decide +kernel
theorem dX3_push_32 : decode cX3_push 32 = .ok (.getfield 99, 3) := by decide +kernel
theorem dX3_push_35 : decode cX3_push 35 = .ok (.lload_n 1, 1) := by decide +kernel
theorem dX3_push_36 : decode cX3_push 36 = .ok (.lastore, 1) := by decide +kernel
theorem dX3_push_37 : decode cX3_push 37 = .ok (.aload_n 0, 1) := by decide +kernel
theorem dX3_push_38 : decode cX3_push 38 = .ok (.dup, 1) := by decide +kernel
theorem dX3_push_39 : decode cX3_push 39 = .ok (.getfield 99, 3) := by decide +kernel
theorem dX3_push_42 : decode cX3_push 42 = .ok (.iconst 1, 1) := by decide +kernel
theorem dX3_push_43 : decode cX3_push 43 = .ok (.iadd, 1) := by decide +kernel
theorem dX3_push_44 : decode cX3_push 44 = .ok (.putfield 99, 3) := by decide +kernel
theorem dX3_push_47 : decode cX3_push 47 = .ok (.iconst 1, 1) := by decide +kernel
theorem dX3_push_48 : decode cX3_push 48 = .ok (.ireturn, 1) := by decide +kernel
theorem dX3_pop_0 : decode cX3_pop 0 = .ok (.aload_n 0, 1) := by decide +kernel
theorem dX3_pop_1 : decode cX3_pop 1 = .ok (.getfield 99, 3) := by decide +kernel
theorem dX3_pop_4 : decode cX3_pop 4 = .ok (.ifCond .gt 5, 3) := by decide +kernel
theorem dX3_pop_7 : decode cX3_pop 7 = .ok (.lconst 0, 1) := by decide +kernel
theorem dX3_pop_8 : decode cX3_pop 8 = .ok (.lreturn, 1) := by decide +kernel
theorem dX3_pop_9 : decode cX3_pop 9 = .ok (.aload_n 0, 1) := by decide +kernel
theorem dX3_pop_10 : decode cX3_pop 10 = .ok (.dup, 1) := by decide +kernel
theorem dX3_pop_11 : decode cX3_pop 11 = .ok (.getfield 99, 3) := by decide +kernel
theorem dX3_pop_14 : decode cX3_pop 14 = .ok (.iconst 1, 1) := by decide +kernel
theorem dX3_pop_15 : decode cX3_pop 15 = .ok (.isub, 1) := by decide +kernel
theorem dX3_pop_16 : decode cX3_pop 16 = .ok (.putfield 99, 3) := by decide +kernel
theorem dX3_pop_19 : decode cX3_pop 19 = .ok (.aload_n 0, 1) := by decide +kernel
theorem dX3_pop_20 : decode cX3_pop 20 = .ok (.getfield 18, 3) := by decide +kernel
theorem dX3_pop_23 : decode cX3_pop 23 = .ok (.aload_n 0, 1) := by decide +kernel
theorem dX3_pop_24 : decode cX3_pop 24 = .ok (.getfield 99, 3) := by decide +kernel
theorem dX3_pop_27 : decode cX3_pop 27 = .ok (.laload, 1) := by decide +kernel
theorem dX3_pop_28 : decode cX3_pop 28 = .ok (.lreturn, 1) := by decide +kernel
theorem dX4_init_0 : decode cX4_init 0 = .ok (.aload_n 0, 1) := by decide +kernel
theorem dX4_init_1 : decode cX4_init 1 = .ok (.invokespecial 3, 3) := by decide +kernel
theorem dX4_init_4 : decode cX4_init 4 = .ok (.aload_n 0, 1) := by decide +kernel
theorem dX4_init_5 : decode cX4_init 5 = .ok (.bipush 12, 2) := by decide +kernel
theorem dX4_init_7 : decode cX4_init 7 = .ok (.anewarray 9, 3) := by decide +kernel
theorem dX4_init_10 : decode cX4_init 10 = .ok (.putfield 11, 3) := by decide +kernel
theorem dX4_init_13 : decode cX4_init 13 = .ok (.aload_n 0, 1) := by decide +kernel
theorem dX4_init_14 : decode cX4_init 14 = .ok (.sipush 400, 3) := by decide +kernel
theorem dX4_init_17 : decode cX4_init 17 = .ok (.newarray .int, 2) := by decide +kernel
theorem dX4_init_19 : decode cX4_init 19 = .ok (.putfield 17, 3) := by decide +kernel
theorem dX4_init_22 : decode cX4_init 22 = .ok (.aload_n 0, 1) := by decide +kernel
theorem dX4_init_23 : decode cX4_init 23 = .ok (.sipush 400, 3) := by decide +kernel
theorem dX4_init_26 : decode cX4_init 26 = .ok (.newarray .int, 2) := by decide +kernel
theorem dX4_init_28 : decode cX4_init 28 = .ok (.putfield 21, 3) := by decide +kernel
theorem dX4_init_31 : decode cX4_init 31 = .ok (.iconst 0, 1) := by decide +kernel
theorem dX4_init_32 : decode cX4_init 32 = .ok (.istore_n 1, 1) := by decide +kernel
theorem dX4_init_33 : decode cX4_init 33 = .ok (.iload_n 1, 1) := by decide +kernel
theorem dX4_init_34 : decode cX4_init 34 = .ok (.bipush 12, 2) := by decide +kernel
theorem dX4_init_36 : decode cX4_init 36 = .ok (.if_icmp .ge 22, 3) := by decide +kernel
theorem dX4_init_39 : decode cX4_init 39 = .ok (.aload_n 0, 1) := by decide +kernel
theorem dX4_init_40 : decode cX4_init 40 = .ok (.getfield 11, 3) := by decide +kernel
theorem dX4_init_43 : decode cX4_init 43 = .ok (.iload_n 1, 1) := by decide +kernel
theorem dX4_init_44 : decode cX4_init 44 = .ok (.new 9, 3) := by decide +kernel
theorem dX4_init_47 : decode cX4_init 47 = .ok (.dup, 1) := by decide +kernel
theorem dX4_init_48 : decode cX4_init 48 = .ok (.invokespecial 24, 3) := by decide +kernel
theorem dX4_init_51 : decode cX4_init 51 = .ok (.aastore, 1) := by decide +kernel
theorem dX4_init_52 : decode cX4_init 52 = .ok (.iinc 1 1, 3) := by decide +kernel
theorem dX4_init_55 : decode cX4_init 55 = .ok (.goto (-22), 3) := by decide +kernel
theorem dX4_init_58 : decode cX4_init 58 = .ok (.return_, 1) := by decide +kernel
theorem dX4_write_0 : decode cX4_write 0 = .ok (.aload_n 0, 1) := by decide +kernel
theorem dX4_write_1 : decode cX4_write 1 = .ok (.getfield 25, 3) := by decide +kernel
theorem dX4_write_4 : decode cX4_write 4 = .ok (.sipush 400, 3) := by decide +kernel
theorem dX4_write_7 : decode cX4_write 7 = .ok (.if_icmp .lt 5, 3) := by decide +kernel
theorem dX4_write_10 : decode cX4_write 10 = .ok (.iconst (-1), 1) := by decide +kernel
theorem dX4_write_11 : decode cX4_write 11 = .ok (.ireturn, 1) := by decide +kernel
theorem dX4_write_12 : decode cX4_write 12 = .ok (.aload_n 0, 1) := by decide +kernel
theorem dX4_write_13 : decode cX4_write 13 = .ok (.getfield 17, 3) := by decide +kernel
theorem dX4_write_16 : decode cX4_write 16 = .ok (.aload_n 0, 1) := by decide +kernel
theorem dX4_write_17 : decode cX4_write 17 = .ok (.getfield 25, 3) := by decide +kernel
theorem dX4_write_20 : decode cX4_write 20 = .ok (.iload_n 1, 1) := by decide +kernel
theorem dX4_write_21 : decode cX4_write 21 = .ok (.iastore, 1) := by decide +kernel
theorem dX4_write_22 : decode cX4_write 22 = .ok (.aload_n 0, 1) := by decide +kernel
theorem dX4_write_23 : decode cX4_write 23 = .ok (.getfield 21, 3) := by decide +kernel
theorem dX4_write_26 : decode cX4_write 26 = .ok (.aload_n 0, 1) := by decide +kernel
theorem dX4_write_27 : decode cX4_write 27 = .ok (.getfield 25, 3) := by decide +kernel
theorem dX4_write_30 : decode cX4_write 30 = .ok (.iload_n 2, 1) := by decide +kernel
theorem dX4_write_31 : decode cX4_write 31 = .ok (.iastore, 1) := by decide +kernel
theorem dX4_write_32 : decode cX4_write 32 = .ok (.aload_n 0, 1) := by decide +kernel
theorem dX4_write_33 : decode cX4_write 33 = .ok (.dup, 1) := by decide +kernel
theorem dX4_write_34 : decode cX4_write 34 = .ok (.getfield 25, 3) := by decide +kernel
theorem dX4_write_37 : decode cX4_write 37 = .ok (.iconst 1, 1) := by decide +kernel
theorem dX4_write_38 : decode cX4_write 38 = .ok (.iadd, 1) := by decide +kernel
theorem dX4_write_39 : decode cX4_write 39 = .ok (.putfield 25, 3) := by decide +kernel
theorem dX4_write_42 : decode cX4_write 42 = .ok (.aload_n 0, 1) := by decide +kernel
theorem dX4_write_43 : decode cX4_write 43 = .ok (.getfield 25, 3) := by decide +kernel
theorem dX4_write_46 : decode cX4_write 46 = .ok (.iconst 1, 1) := by decide +kernel
theorem dX4_write_47 : decode cX4_write 47 = .ok (.isub, 1) := by decide +kernel
theorem dX4_write_48 : decode cX4_write 48 = .ok (.ireturn, 1) := by decide +kernel
theorem dX4_leadHere_0 : decode cX4_leadHere 0 = .ok (.iload_n 1, 1) := by decide +kernel
theorem dX4_leadHere_1 : decode cX4_leadHere 1 = .ok (.ifCond .lt 21, 3) := by decide +kernel
theorem dX4_leadHere_4 : decode cX4_leadHere 4 = .ok (.iload_n 1, 1) := by decide +kernel
theorem dX4_leadHere_5 : decode cX4_leadHere 5 = .ok (.aload_n 0, 1) := by decide +kernel
theorem dX4_leadHere_6 : decode cX4_leadHere 6 = .ok (.getfield 25, 3) := by decide +kernel
theorem dX4_leadHere_9 : decode cX4_leadHere 9 = .ok (.if_icmp .ge 13, 3) := by decide +kernel
theorem dX4_leadHere_12 : decode cX4_leadHere 12 = .ok (.aload_n 0, 1) := by decide +kernel
theorem dX4_leadHere_13 : decode cX4_leadHere 13 = .ok (.getfield 21, 3) := by decide +kernel
theorem dX4_leadHere_16 : decode cX4_leadHere 16 = .ok (.iload_n 1, 1) := by decide +kernel
theorem dX4_leadHere_17 : decode cX4_leadHere 17 = .ok (.aload_n 0, 1) := by decide +kernel
theorem dX4_leadHere_18 : decode cX4_leadHere 18 = .ok (.getfield 25, 3) := by decide +kernel
theorem dX4_leadHere_21 : decode cX4_leadHere 21 = .ok (.iastore, 1) := by decide +kernel
theorem dX4_leadHere_22 : decode cX4_leadHere 22 = .ok (.return_, 1) := by decide +kernel
theorem dX5_init_0 : decode cX5_init 0 = .ok (.aload_n 0, 1) := by decide +kernel
theorem dX5_init_1 : decode cX5_init 1 = .ok (.invokespecial 3, 3) := by decide +kernel
theorem dX5_init_4 : decode cX5_init 4 = .ok (.aload_n 0, 1) := by decide +kernel
theorem dX5_init_5 : decode cX5_init 5 = .ok (.iconst 4, 1) := by decide +kernel
theorem dX5_init_6 : decode cX5_init 6 = .ok (.anewarray 9, 3) := by decide +kernel
theorem dX5_init_9 : decode cX5_init 9 = .ok (.putfield 11, 3) := by decide +kernel
theorem dX5_init_12 : decode cX5_init 12 = .ok (.aload_n 0, 1) := by decide +kernel
theorem dX5_init_13 : decode cX5_init 13 = .ok (.bipush 9, 2) := by decide +kernel
theorem dX5_init_15 : decode cX5_init 15 = .ok (.newarray .int, 2) := by decide +kernel
theorem dX5_init_17 : decode cX5_init 17 = .ok (.putfield 17, 3) := by decide +kernel
theorem dX5_init_20 : decode cX5_init 20 = .ok (.aload_n 0, 1) := by decide +kernel
theorem dX5_init_21 : decode cX5_init 21 = .ok (.bipush 9, 2) := by decide +kernel
theorem dX5_init_23 : decode cX5_init 23 = .ok (.newarray .int, 2) := by decide +kernel
theorem dX5_init_25 : decode cX5_init 25 = .ok (.putfield 21, 3) := by decide +kernel
theorem dX5_init_28 : decode cX5_init 28 = .ok (.iconst 0, 1) := by decide +kernel
theorem dX5_init_29 : decode cX5_init 29 = .ok (.istore_n 1, 1) := by decide +kernel
theorem dX5_init_30 : decode cX5_init 30 = .ok (.iload_n 1, 1) := by decide +kernel
theorem dX5_init_31 : decode cX5_init 31 = .ok (.iconst 3, 1) := by decide +kernel
theorem dX5_init_32 : decode cX5_init 32 = .ok (.if_icmp .gt 22, 3) := by decide +kernel
theorem dX5_init_35 : decode cX5_init 35 = .ok (.aload_n 0, 1) := by decide +kernel
theorem dX5_init_36 : decode cX5_init 36 = .ok (.getfield 11, 3) := by decide +kernel
theorem dX5_init_39 : decode cX5_init 39 = .ok (.iload_n 1, 1) := by decide +kernel
theorem dX5_init_40 : decode cX5_init 40 = .ok (.new 9, 3) := by decide +kernel
theorem dX5_init_43 : decode cX5_init 43 = .ok (.dup, 1) := by decide +kernel
theorem dX5_init_44 : decode cX5_init 44 = .ok (.invokespecial 24, 3) := by decide +kernel
theorem dX5_init_47 : decode cX5_init 47 = .ok (.aastore, 1) := by decide +kernel
theorem dX5_init_48 : decode cX5_init 48 = .ok (.iinc 1 1, 3) := by decide +kernel
theorem dX5_init_51 : decode cX5_init 51 = .ok (.goto (-21), 3) := by decide +kernel
theorem dX5_init_54 : decode cX5_init 54 = .ok (.return_, 1) := by decide +kernel
theorem dX5_fewest_0 : decode cX5_fewest 0 = .ok (.aload_n 0, 1) := by decide +kernel
theorem dX5_fewest_1 : decode cX5_fewest 1 = .ok (.iconst 1, 1) := by decide +kernel
theorem dX5_fewest_2 : decode cX5_fewest 2 = .ok (.putfield 25, 3) := by decide +kernel
theorem dX5_fewest_5 : decode cX5_fewest 5 = .ok (.aload_n 0, 1) := by decide +kernel
theorem dX5_fewest_6 : decode cX5_fewest 6 = .ok (.iload_n 2, 1) := by decide +kernel
theorem dX5_fewest_7 : decode cX5_fewest 7 = .ok (.putfield 29, 3) := by decide +kernel
theorem dX5_fewest_10 : decode cX5_fewest 10 = .ok (.aload_n 0, 1) := by decide +kernel
theorem dX5_fewest_11 : decode cX5_fewest 11 = .ok (.iload_n 3, 1) := by decide +kernel
theorem dX5_fewest_12 : decode cX5_fewest 12 = .ok (.putfield 33, 3) := by decide +kernel
theorem dX5_fewest_15 : decode cX5_fewest 15 = .ok (.aload_n 0, 1) := by decide +kernel
theorem dX5_fewest_16 : decode cX5_fewest 16 = .ok (.iload 4, 2) := by decide +kernel
theorem dX5_fewest_18 : decode cX5_fewest 18 = .ok (.putfield 36, 3) := by decide +kernel
theorem dX5_fewest_21 : decode cX5_fewest 21 = .ok (.aload_n 0, 1) := by decide +kernel
theorem dX5_fewest_22 : decode cX5_fewest 22 = .ok (.iload 5, 2) := by decide +kernel
theorem dX5_fewest_24 : decode cX5_fewest 24 = .ok (.putfield 39, 3) := by decide +kernel
theorem dX5_fewest_27 : decode cX5_fewest 27 = .ok (.aload_n 0, 1) := by decide +kernel
theorem dX5_fewest_28 : decode cX5_fewest 28 = .ok (.iconst 0, 1) := by decide +kernel
theorem dX5_fewest_29 : decode cX5_fewest 29 = .ok (.putfield 42, 3) := by decide +kernel
theorem dX5_fewest_32 : decode cX5_fewest 32 = .ok (.aload_n 0, 1) := by decide +kernel
theorem dX5_fewest_33 : decode cX5_fewest 33 = .ok (.getfield 11, 3) := by decide +kernel
theorem dX5_fewest_36 : decode cX5_fewest 36 = .ok (.iconst 0, 1) := by decide +kernel
theorem dX5_fewest_37 : decode cX5_fewest 37 = .ok (.aaload, 1) := by decide +kernel
theorem dX5_fewest_38 : decode cX5_fewest 38 = .ok (.aload_n 1, 1) := by decide +kernel
theorem dX5_fewest_39 : decode cX5_fewest 39 = .ok (.getfield 45, 3) := by decide +kernel
theorem dX5_fewest_42 : decode cX5_fewest 42 = .ok (.invokevirtual 51, 3) := by decide +kernel
theorem dX5_fewest_45 : decode cX5_fewest 45 = .ok (.iconst 0, 1) := by decide +kernel
theorem dX5_fewest_46 : decode cX5_fewest 46 = .ok (.istore 6, 2) := by decide +kernel
theorem dX5_fewest_48 : decode cX5_fewest 48 = .ok (.iload 6, 2) := by decide +kernel
theorem dX5_fewest_50 : decode cX5_fewest 50 = .ok (.iconst 3, 1) := by decide +kernel
theorem dX5_fewest_51 : decode cX5_fewest 51 = .ok (.if_icmp .gt 27, 3) := by decide +kernel
theorem dX5_fewest_54 : decode cX5_fewest 54 = .ok (.aload_n 0, 1) := by decide +kernel
theorem dX5_fewest_55 : decode cX5_fewest 55 = .ok (.aload_n 1, 1) := by decide +kernel
theorem dX5_fewest_56 : decode cX5_fewest 56 = .ok (.iconst 0, 1) := by decide +kernel
theorem dX5_fewest_57 : decode cX5_fewest 57 = .ok (.iload 6, 2) := by decide +kernel
theorem dX5_fewest_59 : decode cX5_fewest 59 = .ok (.invokevirtual 55, 3) := by decide +kernel
theorem dX5_fewest_62 : decode cX5_fewest 62 = .ok (.aload_n 0, 1) := by decide +kernel
theorem dX5_fewest_63 : decode cX5_fewest 63 = .ok (.getfield 42, 3) := by decide +kernel
theorem dX5_fewest_66 : decode cX5_fewest 66 = .ok (.ifCond .le 6, 3) := by decide +kernel
theorem dX5_fewest_69 : decode cX5_fewest 69 = .ok (.iload 6, 2) := by decide +kernel
theorem dX5_fewest_71 : decode cX5_fewest 71 = .ok (.ireturn, 1) := by decide +kernel
theorem dX5_fewest_72 : decode cX5_fewest 72 = .ok (.iinc 6 1, 3) := by decide +kernel
theorem dX5_fewest_75 : decode cX5_fewest 75 = .ok (.goto (-27), 3) := by decide +kernel
theorem dX5_fewest_78 : decode cX5_fewest 78 = .ok (.iconst (-1), 1) := by decide +kernel
theorem dX5_fewest_79 : decode cX5_fewest 79 = .ok (.ireturn, 1) := by decide +kernel
theorem dX5_fitting_0 : decode cX5_fitting 0 = .ok (.aload_n 0, 1) := by decide +kernel
theorem dX5_fitting_1 : decode cX5_fitting 1 = .ok (.iconst 0, 1) := by decide +kernel
theorem dX5_fitting_2 : decode cX5_fitting 2 = .ok (.putfield 25, 3) := by decide +kernel
theorem dX5_fitting_5 : decode cX5_fitting 5 = .ok (.aload_n 0, 1) := by decide +kernel
theorem dX5_fitting_6 : decode cX5_fitting 6 = .ok (.iconst 0, 1) := by decide +kernel
theorem dX5_fitting_7 : decode cX5_fitting 7 = .ok (.putfield 42, 3) := by decide +kernel
theorem dX5_fitting_10 : decode cX5_fitting 10 = .ok (.aload_n 0, 1) := by decide +kernel
theorem dX5_fitting_11 : decode cX5_fitting 11 = .ok (.getfield 11, 3) := by decide +kernel
theorem dX5_fitting_14 : decode cX5_fitting 14 = .ok (.iconst 0, 1) := by decide +kernel
theorem dX5_fitting_15 : decode cX5_fitting 15 = .ok (.aaload, 1) := by decide +kernel
theorem dX5_fitting_16 : decode cX5_fitting 16 = .ok (.aload_n 1, 1) := by decide +kernel
theorem dX5_fitting_17 : decode cX5_fitting 17 = .ok (.getfield 45, 3) := by decide +kernel
theorem dX5_fitting_20 : decode cX5_fitting 20 = .ok (.invokevirtual 51, 3) := by decide +kernel
theorem dX5_fitting_23 : decode cX5_fitting 23 = .ok (.aload_n 0, 1) := by decide +kernel
theorem dX5_fitting_24 : decode cX5_fitting 24 = .ok (.aload_n 1, 1) := by decide +kernel
theorem dX5_fitting_25 : decode cX5_fitting 25 = .ok (.iconst 0, 1) := by decide +kernel
theorem dX5_fitting_26 : decode cX5_fitting 26 = .ok (.iload_n 2, 1) := by decide +kernel
theorem dX5_fitting_27 : decode cX5_fitting 27 = .ok (.invokevirtual 55, 3) := by decide +kernel
theorem dX5_fitting_30 : decode cX5_fitting 30 = .ok (.aload_n 0, 1) := by decide +kernel
theorem dX5_fitting_31 : decode cX5_fitting 31 = .ok (.getfield 42, 3) := by decide +kernel
theorem dX5_fitting_34 : decode cX5_fitting 34 = .ok (.ireturn, 1) := by decide +kernel
theorem dX5_ofFirst_0 : decode cX5_ofFirst 0 = .ok (.iload_n 2, 1) := by decide +kernel
theorem dX5_ofFirst_1 : decode cX5_ofFirst 1 = .ok (.ifCond .lt 22, 3) := by decide +kernel
theorem dX5_ofFirst_4 : decode cX5_ofFirst 4 = .ok (.iload_n 2, 1) := by decide +kernel
theorem dX5_ofFirst_5 : decode cX5_ofFirst 5 = .ok (.iload_n 1, 1) := by decide +kernel
theorem dX5_ofFirst_6 : decode cX5_ofFirst 6 = .ok (.if_icmp .ge 17, 3) := by decide +kernel
theorem dX5_ofFirst_9 : decode cX5_ofFirst 9 = .ok (.iload_n 2, 1) := by decide +kernel
theorem dX5_ofFirst_10 : decode cX5_ofFirst 10 = .ok (.iconst 3, 1) := by decide +kernel
theorem dX5_ofFirst_11 : decode cX5_ofFirst 11 = .ok (.if_icmp .ge 12, 3) := by decide +kernel
theorem dX5_ofFirst_14 : decode cX5_ofFirst 14 = .ok (.iload_n 3, 1) := by decide +kernel
theorem dX5_ofFirst_15 : decode cX5_ofFirst 15 = .ok (.iconst 0, 1) := by decide +kernel
theorem dX5_ofFirst_16 : decode cX5_ofFirst 16 = .ok (.iconst 2, 1) := by decide +kernel
theorem dX5_ofFirst_17 : decode cX5_ofFirst 17 = .ok (.invokestatic 59, 3) := by decide +kernel
theorem dX5_ofFirst_20 : decode cX5_ofFirst 20 = .ok (.ifCond .ne 5, 3) := by decide +kernel
theorem dX5_ofFirst_23 : decode cX5_ofFirst 23 = .ok (.iconst (-1), 1) := by decide +kernel
theorem dX5_ofFirst_24 : decode cX5_ofFirst 24 = .ok (.ireturn, 1) := by decide +kernel
theorem dX5_ofFirst_25 : decode cX5_ofFirst 25 = .ok (.aload_n 0, 1) := by decide +kernel
theorem dX5_ofFirst_26 : decode cX5_ofFirst 26 = .ok (.getfield 21, 3) := by decide +kernel
theorem dX5_ofFirst_29 : decode cX5_ofFirst 29 = .ok (.iload_n 2, 1) := by decide +kernel
theorem dX5_ofFirst_30 : decode cX5_ofFirst 30 = .ok (.iconst 3, 1) := by decide +kernel
theorem dX5_ofFirst_31 : decode cX5_ofFirst 31 = .ok (.imul, 1) := by decide +kernel
theorem dX5_ofFirst_32 : decode cX5_ofFirst 32 = .ok (.iload_n 3, 1) := by decide +kernel
theorem dX5_ofFirst_33 : decode cX5_ofFirst 33 = .ok (.iadd, 1) := by decide +kernel
theorem dX5_ofFirst_34 : decode cX5_ofFirst 34 = .ok (.iaload, 1) := by decide +kernel
theorem dX5_ofFirst_35 : decode cX5_ofFirst 35 = .ok (.ireturn, 1) := by decide +kernel
theorem dX5_walk_0 : decode cX5_walk 0 = .ok (.iload_n 2, 1) := by decide +kernel
theorem dX5_walk_1 : decode cX5_walk 1 = .ok (.iload_n 3, 1) := by decide +kernel
theorem dX5_walk_2 : decode cX5_walk 2 = .ok (.if_icmp .ge 8, 3) := by decide +kernel
theorem dX5_walk_5 : decode cX5_walk 5 = .ok (.iload_n 2, 1) := by decide +kernel
theorem dX5_walk_6 : decode cX5_walk 6 = .ok (.iconst 3, 1) := by decide +kernel
theorem dX5_walk_7 : decode cX5_walk 7 = .ok (.if_icmp .lt 15, 3) := by decide +kernel
theorem dX5_walk_10 : decode cX5_walk 10 = .ok (.aload_n 0, 1) := by decide +kernel
theorem dX5_walk_11 : decode cX5_walk 11 = .ok (.aload_n 1, 1) := by decide +kernel
theorem dX5_walk_12 : decode cX5_walk 12 = .ok (.aload_n 0, 1) := by decide +kernel
theorem dX5_walk_13 : decode cX5_walk 13 = .ok (.getfield 11, 3) := by decide +kernel
theorem dX5_walk_16 : decode cX5_walk 16 = .ok (.iload_n 2, 1) := by decide +kernel
theorem dX5_walk_17 : decode cX5_walk 17 = .ok (.aaload, 1) := by decide +kernel
theorem dX5_walk_18 : decode cX5_walk 18 = .ok (.invokevirtual 63, 3) := by decide +kernel
theorem dX5_walk_21 : decode cX5_walk 21 = .ok (.return_, 1) := by decide +kernel
theorem dX5_walk_22 : decode cX5_walk 22 = .ok (.iconst 0, 1) := by decide +kernel
theorem dX5_walk_23 : decode cX5_walk 23 = .ok (.istore 4, 2) := by decide +kernel
theorem dX5_walk_25 : decode cX5_walk 25 = .ok (.iload 4, 2) := by decide +kernel
theorem dX5_walk_27 : decode cX5_walk 27 = .ok (.aload_n 1, 1) := by decide +kernel
theorem dX5_walk_28 : decode cX5_walk 28 = .ok (.getfield 67, 3) := by decide +kernel
theorem dX5_walk_31 : decode cX5_walk 31 = .ok (.if_icmp .ge 52, 3) := by decide +kernel
theorem dX5_walk_34 : decode cX5_walk 34 = .ok (.iconst 0, 1) := by decide +kernel
theorem dX5_walk_35 : decode cX5_walk 35 = .ok (.istore 5, 2) := by decide +kernel
theorem dX5_walk_37 : decode cX5_walk 37 = .ok (.iload 5, 2) := by decide +kernel
theorem dX5_walk_39 : decode cX5_walk 39 = .ok (.iconst 3, 1) := by decide +kernel
theorem dX5_walk_40 : decode cX5_walk 40 = .ok (.if_icmp .ge 37, 3) := by decide +kernel
theorem dX5_walk_43 : decode cX5_walk 43 = .ok (.iconst 0, 1) := by decide +kernel
theorem dX5_walk_44 : decode cX5_walk 44 = .ok (.istore 6, 2) := by decide +kernel
theorem dX5_walk_46 : decode cX5_walk 46 = .ok (.iload 6, 2) := by decide +kernel
theorem dX5_walk_48 : decode cX5_walk 48 = .ok (.iconst 3, 1) := by decide +kernel
theorem dX5_walk_49 : decode cX5_walk 49 = .ok (.if_icmp .ge 22, 3) := by decide +kernel
theorem dX5_walk_52 : decode cX5_walk 52 = .ok (.aload_n 0, 1) := by decide +kernel
theorem dX5_walk_53 : decode cX5_walk 53 = .ok (.aload_n 1, 1) := by decide +kernel
theorem dX5_walk_54 : decode cX5_walk 54 = .ok (.iload_n 2, 1) := by decide +kernel
theorem dX5_walk_55 : decode cX5_walk 55 = .ok (.iload_n 3, 1) := by decide +kernel
theorem dX5_walk_56 : decode cX5_walk 56 = .ok (.iload 4, 2) := by decide +kernel
theorem dX5_walk_58 : decode cX5_walk 58 = .ok (.iload 5, 2) := by decide +kernel
theorem dX5_walk_60 : decode cX5_walk 60 = .ok (.iload 6, 2) := by decide +kernel
theorem dX5_walk_62 : decode cX5_walk 62 = .ok (.invokevirtual 70, 3) := by decide +kernel
theorem dX5_walk_65 : decode cX5_walk 65 = .ok (.iinc 6 1, 3) := by decide +kernel
theorem dX5_walk_68 : decode cX5_walk 68 = .ok (.goto (-22), 3) := by decide +kernel
theorem dX5_walk_71 : decode cX5_walk 71 = .ok (.iinc 5 1, 3) := by decide +kernel
theorem dX5_walk_74 : decode cX5_walk 74 = .ok (.goto (-37), 3) := by decide +kernel
theorem dX5_walk_77 : decode cX5_walk 77 = .ok (.iinc 4 1, 3) := by decide +kernel
theorem dX5_walk_80 : decode cX5_walk 80 = .ok (.goto (-55), 3) := by decide +kernel
theorem dX5_walk_83 : decode cX5_walk 83 = .ok (.return_, 1) := by decide +kernel
theorem dX5_step_0 : decode cX5_step 0 = .ok (.aload_n 0, 1) := by decide +kernel
theorem dX5_step_1 : decode cX5_step 1 = .ok (.getfield 25, 3) := by decide +kernel
theorem dX5_step_4 : decode cX5_step 4 = .ok (.ifCond .eq 14, 3) := by decide +kernel
theorem dX5_step_7 : decode cX5_step 7 = .ok (.aload_n 0, 1) := by decide +kernel
theorem dX5_step_8 : decode cX5_step 8 = .ok (.getfield 42, 3) := by decide +kernel
theorem dX5_step_11 : decode cX5_step 11 = .ok (.ifCond .le 7, 3) := by decide +kernel
theorem dX5_step_14 : decode cX5_step 14 = .ok (.iconst 1, 1) := by decide +kernel
theorem dX5_step_15 : decode cX5_step 15 = .ok (.goto 4, 3) := by decide +kernel
theorem dX5_step_18 : decode cX5_step 18 = .ok (.iconst 0, 1) := by decide +kernel
theorem dX5_step_19 : decode cX5_step 19 = .ok (.istore 7, 2) := by decide +kernel
theorem dX5_step_21 : decode cX5_step 21 = .ok (.iload 7, 2) := by decide +kernel
theorem dX5_step_23 : decode cX5_step 23 = .ok (.ifCond .ne 26, 3) := by decide +kernel
theorem dX5_step_26 : decode cX5_step 26 = .ok (.aload_n 0, 1) := by decide +kernel
theorem dX5_step_27 : decode cX5_step 27 = .ok (.getfield 11, 3) := by decide +kernel
theorem dX5_step_30 : decode cX5_step 30 = .ok (.iload_n 2, 1) := by decide +kernel
theorem dX5_step_31 : decode cX5_step 31 = .ok (.aaload, 1) := by decide +kernel
theorem dX5_step_32 : decode cX5_step 32 = .ok (.iload 5, 2) := by decide +kernel
theorem dX5_step_34 : decode cX5_step 34 = .ok (.iload 6, 2) := by decide +kernel
theorem dX5_step_36 : decode cX5_step 36 = .ok (.aload_n 1, 1) := by decide +kernel
theorem dX5_step_37 : decode cX5_step 37 = .ok (.getfield 74, 3) := by decide +kernel
theorem dX5_step_40 : decode cX5_step 40 = .ok (.iload 4, 2) := by decide +kernel
theorem dX5_step_42 : decode cX5_step 42 = .ok (.iaload, 1) := by decide +kernel
theorem dX5_step_43 : decode cX5_step 43 = .ok (.invokevirtual 77, 3) := by decide +kernel
theorem dX5_step_46 : decode cX5_step 46 = .ok (.ifCond .ne 4, 3) := by decide +kernel
theorem dX5_step_49 : decode cX5_step 49 = .ok (.return_, 1) := by decide +kernel
theorem dX5_step_50 : decode cX5_step 50 = .ok (.aload_n 0, 1) := by decide +kernel
theorem dX5_step_51 : decode cX5_step 51 = .ok (.getfield 11, 3) := by decide +kernel
theorem dX5_step_54 : decode cX5_step 54 = .ok (.iload_n 2, 1) := by decide +kernel
theorem dX5_step_55 : decode cX5_step 55 = .ok (.iconst 1, 1) := by decide +kernel
theorem dX5_step_56 : decode cX5_step 56 = .ok (.iadd, 1) := by decide +kernel
theorem dX5_step_57 : decode cX5_step 57 = .ok (.aaload, 1) := by decide +kernel
theorem dX5_step_58 : decode cX5_step 58 = .ok (.astore 8, 2) := by decide +kernel
theorem dX5_step_60 : decode cX5_step 60 = .ok (.aload 8, 2) := by decide +kernel
theorem dX5_step_62 : decode cX5_step 62 = .ok (.aload_n 0, 1) := by decide +kernel
theorem dX5_step_63 : decode cX5_step 63 = .ok (.getfield 11, 3) := by decide +kernel
theorem dX5_step_66 : decode cX5_step 66 = .ok (.iload_n 2, 1) := by decide +kernel
theorem dX5_step_67 : decode cX5_step 67 = .ok (.aaload, 1) := by decide +kernel
theorem dX5_step_68 : decode cX5_step 68 = .ok (.invokevirtual 51, 3) := by decide +kernel
theorem dX5_step_71 : decode cX5_step 71 = .ok (.aload 8, 2) := by decide +kernel
theorem dX5_step_73 : decode cX5_step 73 = .ok (.iload 5, 2) := by decide +kernel
theorem dX5_step_75 : decode cX5_step 75 = .ok (.iload 6, 2) := by decide +kernel
theorem dX5_step_77 : decode cX5_step 77 = .ok (.aload_n 1, 1) := by decide +kernel
theorem dX5_step_78 : decode cX5_step 78 = .ok (.getfield 74, 3) := by decide +kernel
theorem dX5_step_81 : decode cX5_step 81 = .ok (.iload 4, 2) := by decide +kernel
theorem dX5_step_83 : decode cX5_step 83 = .ok (.iaload, 1) := by decide +kernel
theorem dX5_step_84 : decode cX5_step 84 = .ok (.invokevirtual 80, 3) := by decide +kernel
theorem dX5_step_87 : decode cX5_step 87 = .ok (.ifCond .ne 26, 3) := by decide +kernel
theorem dX5_step_90 : decode cX5_step 90 = .ok (.aload_n 0, 1) := by decide +kernel
theorem dX5_step_91 : decode cX5_step 91 = .ok (.getfield 17, 3) := by decide +kernel
theorem dX5_step_94 : decode cX5_step 94 = .ok (.iload_n 2, 1) := by decide +kernel
theorem dX5_step_95 : decode cX5_step 95 = .ok (.iload 4, 2) := by decide +kernel
theorem dX5_step_97 : decode cX5_step 97 = .ok (.iload 5, 2) := by decide +kernel
theorem dX5_step_99 : decode cX5_step 99 = .ok (.iload 6, 2) := by decide +kernel
theorem dX5_step_101 : decode cX5_step 101 = .ok (.invokestatic 84, 3) := by decide +kernel
theorem dX5_step_104 : decode cX5_step 104 = .ok (.aload_n 0, 1) := by decide +kernel
theorem dX5_step_105 : decode cX5_step 105 = .ok (.aload_n 1, 1) := by decide +kernel
theorem dX5_step_106 : decode cX5_step 106 = .ok (.iload_n 2, 1) := by decide +kernel
theorem dX5_step_107 : decode cX5_step 107 = .ok (.iconst 1, 1) := by decide +kernel
theorem dX5_step_108 : decode cX5_step 108 = .ok (.iadd, 1) := by decide +kernel
theorem dX5_step_109 : decode cX5_step 109 = .ok (.iload_n 3, 1) := by decide +kernel
theorem dX5_step_110 : decode cX5_step 110 = .ok (.invokevirtual 55, 3) := by decide +kernel
theorem dX5_step_113 : decode cX5_step 113 = .ok (.return_, 1) := by decide +kernel
theorem dX5_judge_0 : decode cX5_judge 0 = .ok (.aload_n 0, 1) := by decide +kernel
theorem dX5_judge_1 : decode cX5_judge 1 = .ok (.getfield 25, 3) := by decide +kernel
theorem dX5_judge_4 : decode cX5_judge 4 = .ok (.ifCond .eq 30, 3) := by decide +kernel
theorem dX5_judge_7 : decode cX5_judge 7 = .ok (.aload_n 2, 1) := by decide +kernel
theorem dX5_judge_8 : decode cX5_judge 8 = .ok (.aload_n 0, 1) := by decide +kernel
theorem dX5_judge_9 : decode cX5_judge 9 = .ok (.getfield 29, 3) := by decide +kernel
theorem dX5_judge_12 : decode cX5_judge 12 = .ok (.aload_n 0, 1) := by decide +kernel
theorem dX5_judge_13 : decode cX5_judge 13 = .ok (.getfield 33, 3) := by decide +kernel
theorem dX5_judge_16 : decode cX5_judge 16 = .ok (.aload_n 0, 1) := by decide +kernel
theorem dX5_judge_17 : decode cX5_judge 17 = .ok (.getfield 36, 3) := by decide +kernel
theorem dX5_judge_20 : decode cX5_judge 20 = .ok (.aload_n 0, 1) := by decide +kernel
theorem dX5_judge_21 : decode cX5_judge 21 = .ok (.getfield 39, 3) := by decide +kernel
theorem dX5_judge_24 : decode cX5_judge 24 = .ok (.invokevirtual 88, 3) := by decide +kernel
theorem dX5_judge_27 : decode cX5_judge 27 = .ok (.ifCond .eq 7, 3) := by decide +kernel
theorem dX5_judge_30 : decode cX5_judge 30 = .ok (.iconst 1, 1) := by decide +kernel
theorem dX5_judge_31 : decode cX5_judge 31 = .ok (.goto 4, 3) := by decide +kernel
theorem dX5_judge_34 : decode cX5_judge 34 = .ok (.iconst 0, 1) := by decide +kernel
theorem dX5_judge_35 : decode cX5_judge 35 = .ok (.istore_n 3, 1) := by decide +kernel
theorem dX5_judge_36 : decode cX5_judge 36 = .ok (.aload_n 0, 1) := by decide +kernel
theorem dX5_judge_37 : decode cX5_judge 37 = .ok (.getfield 25, 3) := by decide +kernel
theorem dX5_judge_40 : decode cX5_judge 40 = .ok (.ifCond .ne 15, 3) := by decide +kernel
theorem dX5_judge_43 : decode cX5_judge 43 = .ok (.aload_n 1, 1) := by decide +kernel
theorem dX5_judge_44 : decode cX5_judge 44 = .ok (.aload_n 2, 1) := by decide +kernel
theorem dX5_judge_45 : decode cX5_judge 45 = .ok (.invokestatic 92, 3) := by decide +kernel
theorem dX5_judge_48 : decode cX5_judge 48 = .ok (.ifCond .eq 7, 3) := by decide +kernel
theorem dX5_judge_51 : decode cX5_judge 51 = .ok (.iconst 1, 1) := by decide +kernel
theorem dX5_judge_52 : decode cX5_judge 52 = .ok (.goto 4, 3) := by decide +kernel
theorem dX5_judge_55 : decode cX5_judge 55 = .ok (.iconst 0, 1) := by decide +kernel
theorem dX5_judge_56 : decode cX5_judge 56 = .ok (.istore 4, 2) := by decide +kernel
theorem dX5_judge_58 : decode cX5_judge 58 = .ok (.iload_n 3, 1) := by decide +kernel
theorem dX5_judge_59 : decode cX5_judge 59 = .ok (.ifCond .ne 9, 3) := by decide +kernel
theorem dX5_judge_62 : decode cX5_judge 62 = .ok (.iload 4, 2) := by decide +kernel
theorem dX5_judge_64 : decode cX5_judge 64 = .ok (.ifCond .ne 4, 3) := by decide +kernel
theorem dX5_judge_67 : decode cX5_judge 67 = .ok (.return_, 1) := by decide +kernel
theorem dX5_judge_68 : decode cX5_judge 68 = .ok (.aload_n 0, 1) := by decide +kernel
theorem dX5_judge_69 : decode cX5_judge 69 = .ok (.getfield 42, 3) := by decide +kernel
theorem dX5_judge_72 : decode cX5_judge 72 = .ok (.ifCond .ne 18, 3) := by decide +kernel
theorem dX5_judge_75 : decode cX5_judge 75 = .ok (.aload_n 0, 1) := by decide +kernel
theorem dX5_judge_76 : decode cX5_judge 76 = .ok (.getfield 17, 3) := by decide +kernel
theorem dX5_judge_79 : decode cX5_judge 79 = .ok (.iconst 0, 1) := by decide +kernel
theorem dX5_judge_80 : decode cX5_judge 80 = .ok (.aload_n 0, 1) := by decide +kernel
theorem dX5_judge_81 : decode cX5_judge 81 = .ok (.getfield 21, 3) := by decide +kernel
theorem dX5_judge_84 : decode cX5_judge 84 = .ok (.iconst 0, 1) := by decide +kernel
theorem dX5_judge_85 : decode cX5_judge 85 = .ok (.bipush 9, 2) := by decide +kernel
theorem dX5_judge_87 : decode cX5_judge 87 = .ok (.invokestatic 96, 3) := by decide +kernel
theorem dX5_judge_90 : decode cX5_judge 90 = .ok (.aload_n 0, 1) := by decide +kernel
theorem dX5_judge_91 : decode cX5_judge 91 = .ok (.dup, 1) := by decide +kernel
theorem dX5_judge_92 : decode cX5_judge 92 = .ok (.getfield 42, 3) := by decide +kernel
theorem dX5_judge_95 : decode cX5_judge 95 = .ok (.iconst 1, 1) := by decide +kernel
theorem dX5_judge_96 : decode cX5_judge 96 = .ok (.iadd, 1) := by decide +kernel
theorem dX5_judge_97 : decode cX5_judge 97 = .ok (.putfield 42, 3) := by decide +kernel
theorem dX5_judge_100 : decode cX5_judge 100 = .ok (.return_, 1) := by decide +kernel
theorem dX5_isAsTold_0 : decode cX5_isAsTold 0 = .ok (.aload_n 0, 1) := by decide +kernel
theorem dX5_isAsTold_1 : decode cX5_isAsTold 1 = .ok (.getfield 102, 3) := by decide +kernel
theorem dX5_isAsTold_4 : decode cX5_isAsTold 4 = .ok (.astore_n 2, 1) := by decide +kernel
theorem dX5_isAsTold_5 : decode cX5_isAsTold 5 = .ok (.iconst 0, 1) := by decide +kernel
theorem dX5_isAsTold_6 : decode cX5_isAsTold 6 = .ok (.istore_n 3, 1) := by decide +kernel
theorem dX5_isAsTold_7 : decode cX5_isAsTold 7 = .ok (.iload_n 3, 1) := by decide +kernel
theorem dX5_isAsTold_8 : decode cX5_isAsTold 8 = .ok (.aload_n 0, 1) := by decide +kernel
theorem dX5_isAsTold_9 : decode cX5_isAsTold 9 = .ok (.getfield 105, 3) := by decide +kernel
theorem dX5_isAsTold_12 : decode cX5_isAsTold 12 = .ok (.iconst 3, 1) := by decide +kernel
theorem dX5_isAsTold_13 : decode cX5_isAsTold 13 = .ok (.imul, 1) := by decide +kernel
theorem dX5_isAsTold_14 : decode cX5_isAsTold 14 = .ok (.if_icmp .ge 31, 3) := by decide +kernel
theorem dX5_isAsTold_17 : decode cX5_isAsTold 17 = .ok (.aload_n 1, 1) := by decide +kernel
theorem dX5_isAsTold_18 : decode cX5_isAsTold 18 = .ok (.aload_n 2, 1) := by decide +kernel
theorem dX5_isAsTold_19 : decode cX5_isAsTold 19 = .ok (.iload_n 3, 1) := by decide +kernel
theorem dX5_isAsTold_20 : decode cX5_isAsTold 20 = .ok (.iaload, 1) := by decide +kernel
theorem dX5_isAsTold_21 : decode cX5_isAsTold 21 = .ok (.aload_n 2, 1) := by decide +kernel
theorem dX5_isAsTold_22 : decode cX5_isAsTold 22 = .ok (.iload_n 3, 1) := by decide +kernel
theorem dX5_isAsTold_23 : decode cX5_isAsTold 23 = .ok (.iconst 1, 1) := by decide +kernel
theorem dX5_isAsTold_24 : decode cX5_isAsTold 24 = .ok (.iadd, 1) := by decide +kernel
theorem dX5_isAsTold_25 : decode cX5_isAsTold 25 = .ok (.iaload, 1) := by decide +kernel
theorem dX5_isAsTold_26 : decode cX5_isAsTold 26 = .ok (.invokevirtual 108, 3) := by decide +kernel
theorem dX5_isAsTold_29 : decode cX5_isAsTold 29 = .ok (.aload_n 2, 1) := by decide +kernel
theorem dX5_isAsTold_30 : decode cX5_isAsTold 30 = .ok (.iload_n 3, 1) := by decide +kernel
theorem dX5_isAsTold_31 : decode cX5_isAsTold 31 = .ok (.iconst 2, 1) := by decide +kernel
theorem dX5_isAsTold_32 : decode cX5_isAsTold 32 = .ok (.iadd, 1) := by decide +kernel
theorem dX5_isAsTold_33 : decode cX5_isAsTold 33 = .ok (.iaload, 1) := by decide +kernel
theorem dX5_isAsTold_34 : decode cX5_isAsTold 34 = .ok (.if_icmp .eq 5, 3) := by decide +kernel
theorem dX5_isAsTold_37 : decode cX5_isAsTold 37 = .ok (.iconst 0, 1) := by decide +kernel
theorem dX5_isAsTold_38 : decode cX5_isAsTold 38 = .ok (.ireturn, 1) := by decide +kernel
theorem dX5_isAsTold_39 : decode cX5_isAsTold 39 = .ok (.iinc 3 3, 3) := by decide +kernel
theorem dX5_isAsTold_42 : decode cX5_isAsTold 42 = .ok (.goto (-35), 3) := by decide +kernel
theorem dX5_isAsTold_45 : decode cX5_isAsTold 45 = .ok (.iconst 1, 1) := by decide +kernel
theorem dX5_isAsTold_46 : decode cX5_isAsTold 46 = .ok (.ireturn, 1) := by decide +kernel
theorem dX6_init_0 : decode cX6_init 0 = .ok (.aload_n 0, 1) := by decide +kernel
theorem dX6_init_1 : decode cX6_init 1 = .ok (.invokespecial 3, 3) := by decide +kernel
theorem dX6_init_4 : decode cX6_init 4 = .ok (.aload_n 0, 1) := by decide +kernel
theorem dX6_init_5 : decode cX6_init 5 = .ok (.new 9, 3) := by decide +kernel
theorem dX6_init_8 : decode cX6_init 8 = .ok (.dup, 1) := by decide +kernel
theorem dX6_init_9 : decode cX6_init 9 = .ok (.invokespecial 11, 3) := by decide +kernel
theorem dX6_init_12 : decode cX6_init 12 = .ok (.putfield 12, 3) := by decide +kernel
theorem dX6_init_15 : decode cX6_init 15 = .ok (.aload_n 0, 1) := by decide +kernel
theorem dX6_init_16 : decode cX6_init 16 = .ok (.iconst 3, 1) := by decide +kernel
theorem dX6_init_17 : decode cX6_init 17 = .ok (.newarray .int, 2) := by decide +kernel
theorem dX6_init_19 : decode cX6_init 19 = .ok (.putfield 18, 3) := by decide +kernel
theorem dX6_init_22 : decode cX6_init 22 = .ok (.aload_n 0, 1) := by decide +kernel
theorem dX6_init_23 : decode cX6_init 23 = .ok (.bipush 18, 2) := by decide +kernel
theorem dX6_init_25 : decode cX6_init 25 = .ok (.newarray .int, 2) := by decide +kernel
theorem dX6_init_27 : decode cX6_init 27 = .ok (.putfield 22, 3) := by decide +kernel
theorem dX6_init_30 : decode cX6_init 30 = .ok (.aload_n 0, 1) := by decide +kernel
theorem dX6_init_31 : decode cX6_init 31 = .ok (.bipush 18, 2) := by decide +kernel
theorem dX6_init_33 : decode cX6_init 33 = .ok (.newarray .int, 2) := by decide +kernel
theorem dX6_init_35 : decode cX6_init 35 = .ok (.putfield 25, 3) := by decide +kernel
theorem dX6_init_38 : decode cX6_init 38 = .ok (.return_, 1) := by decide +kernel
theorem dX6_copyFrom_0 : decode cX6_copyFrom 0 = .ok (.aload_n 0, 1) := by decide +kernel
theorem dX6_copyFrom_1 : decode cX6_copyFrom 1 = .ok (.getfield 12, 3) := by decide +kernel
theorem dX6_copyFrom_4 : decode cX6_copyFrom 4 = .ok (.aload_n 1, 1) := by decide +kernel
theorem dX6_copyFrom_5 : decode cX6_copyFrom 5 = .ok (.getfield 12, 3) := by decide +kernel
theorem dX6_copyFrom_8 : decode cX6_copyFrom 8 = .ok (.invokevirtual 28, 3) := by decide +kernel
theorem dX6_copyFrom_11 : decode cX6_copyFrom 11 = .ok (.aload_n 1, 1) := by decide +kernel
theorem dX6_copyFrom_12 : decode cX6_copyFrom 12 = .ok (.getfield 18, 3) := by decide +kernel
theorem dX6_copyFrom_15 : decode cX6_copyFrom 15 = .ok (.iconst 0, 1) := by decide +kernel
theorem dX6_copyFrom_16 : decode cX6_copyFrom 16 = .ok (.aload_n 0, 1) := by decide +kernel
theorem dX6_copyFrom_17 : decode cX6_copyFrom 17 = .ok (.getfield 18, 3) := by decide +kernel
theorem dX6_copyFrom_20 : decode cX6_copyFrom 20 = .ok (.iconst 0, 1) := by decide +kernel
theorem dX6_copyFrom_21 : decode cX6_copyFrom 21 = .ok (.iconst 3, 1) := by decide +kernel
theorem dX6_copyFrom_22 : decode cX6_copyFrom 22 = .ok (.invokestatic 32, 3) := by decide +kernel
theorem dX6_copyFrom_25 : decode cX6_copyFrom 25 = .ok (.aload_n 1, 1) := by decide +kernel
theorem dX6_copyFrom_26 : decode cX6_copyFrom 26 = .ok (.getfield 22, 3) := by decide +kernel
theorem dX6_copyFrom_29 : decode cX6_copyFrom 29 = .ok (.iconst 0, 1) := by decide +kernel
theorem dX6_copyFrom_30 : decode cX6_copyFrom 30 = .ok (.aload_n 0, 1) := by decide +kernel
theorem dX6_copyFrom_31 : decode cX6_copyFrom 31 = .ok (.getfield 22, 3) := by decide +kernel
theorem dX6_copyFrom_34 : decode cX6_copyFrom 34 = .ok (.iconst 0, 1) := by decide +kernel
theorem dX6_copyFrom_35 : decode cX6_copyFrom 35 = .ok (.bipush 18, 2) := by decide +kernel
theorem dX6_copyFrom_37 : decode cX6_copyFrom 37 = .ok (.invokestatic 32, 3) := by decide +kernel
theorem dX6_copyFrom_40 : decode cX6_copyFrom 40 = .ok (.aload_n 1, 1) := by decide +kernel
theorem dX6_copyFrom_41 : decode cX6_copyFrom 41 = .ok (.getfield 25, 3) := by decide +kernel
theorem dX6_copyFrom_44 : decode cX6_copyFrom 44 = .ok (.iconst 0, 1) := by decide +kernel
theorem dX6_copyFrom_45 : decode cX6_copyFrom 45 = .ok (.aload_n 0, 1) := by decide +kernel
theorem dX6_copyFrom_46 : decode cX6_copyFrom 46 = .ok (.getfield 25, 3) := by decide +kernel
theorem dX6_copyFrom_49 : decode cX6_copyFrom 49 = .ok (.iconst 0, 1) := by decide +kernel
theorem dX6_copyFrom_50 : decode cX6_copyFrom 50 = .ok (.bipush 18, 2) := by decide +kernel
theorem dX6_copyFrom_52 : decode cX6_copyFrom 52 = .ok (.invokestatic 32, 3) := by decide +kernel
theorem dX6_copyFrom_55 : decode cX6_copyFrom 55 = .ok (.aload_n 0, 1) := by decide +kernel
theorem dX6_copyFrom_56 : decode cX6_copyFrom 56 = .ok (.aload_n 1, 1) := by decide +kernel
theorem dX6_copyFrom_57 : decode cX6_copyFrom 57 = .ok (.getfield 38, 3) := by decide +kernel
theorem dX6_copyFrom_60 : decode cX6_copyFrom 60 = .ok (.putfield 38, 3) := by decide +kernel
theorem dX6_copyFrom_63 : decode cX6_copyFrom 63 = .ok (.aload_n 0, 1) := by decide +kernel
theorem dX6_copyFrom_64 : decode cX6_copyFrom 64 = .ok (.aload_n 1, 1) := by decide +kernel
theorem dX6_copyFrom_65 : decode cX6_copyFrom 65 = .ok (.getfield 42, 3) := by decide +kernel
theorem dX6_copyFrom_68 : decode cX6_copyFrom 68 = .ok (.putfield 42, 3) := by decide +kernel
theorem dX6_copyFrom_71 : decode cX6_copyFrom 71 = .ok (.aload_n 0, 1) := by decide +kernel
theorem dX6_copyFrom_72 : decode cX6_copyFrom 72 = .ok (.aload_n 1, 1) := by decide +kernel
theorem dX6_copyFrom_73 : decode cX6_copyFrom 73 = .ok (.getfield 45, 3) := by decide +kernel
theorem dX6_copyFrom_76 : decode cX6_copyFrom 76 = .ok (.putfield 45, 3) := by decide +kernel
theorem dX6_copyFrom_79 : decode cX6_copyFrom 79 = .ok (.return_, 1) := by decide +kernel
theorem dX7_init_0 : decode cX7_init 0 = .ok (.aload_n 0, 1) := by decide +kernel
theorem dX7_init_1 : decode cX7_init 1 = .ok (.invokespecial 3, 3) := by decide +kernel
theorem dX7_init_4 : decode cX7_init 4 = .ok (.aload_n 0, 1) := by decide +kernel
theorem dX7_init_5 : decode cX7_init 5 = .ok (.bipush 6, 2) := by decide +kernel
theorem dX7_init_7 : decode cX7_init 7 = .ok (.newarray .int, 2) := by decide +kernel
theorem dX7_init_9 : decode cX7_init 9 = .ok (.putfield 9, 3) := by decide +kernel
theorem dX7_init_12 : decode cX7_init 12 = .ok (.aload_n 0, 1) := by decide +kernel
theorem dX7_init_13 : decode cX7_init 13 = .ok (.bipush 6, 2) := by decide +kernel
theorem dX7_init_15 : decode cX7_init 15 = .ok (.newarray .int, 2) := by decide +kernel
theorem dX7_init_17 : decode cX7_init 17 = .ok (.putfield 15, 3) := by decide +kernel
theorem dX7_init_20 : decode cX7_init 20 = .ok (.aload_n 0, 1) := by decide +kernel
theorem dX7_init_21 : decode cX7_init 21 = .ok (.bipush 24, 2) := by decide +kernel
theorem dX7_init_23 : decode cX7_init 23 = .ok (.newarray .long, 2) := by decide +kernel
theorem dX7_init_25 : decode cX7_init 25 = .ok (.putfield 18, 3) := by decide +kernel
theorem dX7_init_28 : decode cX7_init 28 = .ok (.aload_n 0, 1) := by decide +kernel
theorem dX7_init_29 : decode cX7_init 29 = .ok (.bipush 24, 2) := by decide +kernel
theorem dX7_init_31 : decode cX7_init 31 = .ok (.newarray .long, 2) := by decide +kernel
theorem dX7_init_33 : decode cX7_init 33 = .ok (.putfield 22, 3) := by decide +kernel
theorem dX7_init_36 : decode cX7_init 36 = .ok (.aload_n 0, 1) := by decide +kernel
theorem dX7_init_37 : decode cX7_init 37 = .ok (.lconst 1, 1) := by decide +kernel
theorem dX7_init_38 : decode cX7_init 38 = .ok (.putfield 25, 3) := by decide +kernel
theorem dX7_init_41 : decode cX7_init 41 = .ok (.return_, 1) := by decide +kernel
theorem dX7_has_0 : decode cX7_has 0 = .ok (.iload_n 1, 1) := by decide +kernel
theorem dX7_has_1 : decode cX7_has 1 = .ok (.ifCond .lt 15, 3) := by decide +kernel
theorem dX7_has_4 : decode cX7_has 4 = .ok (.iload_n 1, 1) := by decide +kernel
theorem dX7_has_5 : decode cX7_has 5 = .ok (.aload_n 0, 1) := by decide +kernel
theorem dX7_has_6 : decode cX7_has 6 = .ok (.getfield 29, 3) := by decide +kernel
theorem dX7_has_9 : decode cX7_has 9 = .ok (.if_icmp .ge 7, 3) := by decide +kernel
theorem dX7_has_12 : decode cX7_has 12 = .ok (.iconst 1, 1) := by decide +kernel
theorem dX7_has_13 : decode cX7_has 13 = .ok (.goto 4, 3) := by decide +kernel
theorem dX7_has_16 : decode cX7_has 16 = .ok (.iconst 0, 1) := by decide +kernel
theorem dX7_has_17 : decode cX7_has 17 = .ok (.ireturn, 1) := by decide +kernel
theorem dX7_sizeOf_0 : decode cX7_sizeOf 0 = .ok (.aload_n 0, 1) := by decide +kernel
theorem dX7_sizeOf_1 : decode cX7_sizeOf 1 = .ok (.iload_n 1, 1) := by decide +kernel
theorem dX7_sizeOf_2 : decode cX7_sizeOf 2 = .ok (.invokevirtual 33, 3) := by decide +kernel
theorem dX7_sizeOf_5 : decode cX7_sizeOf 5 = .ok (.ifCond .eq 12, 3) := by decide +kernel
theorem dX7_sizeOf_8 : decode cX7_sizeOf 8 = .ok (.aload_n 0, 1) := by decide +kernel
theorem dX7_sizeOf_9 : decode cX7_sizeOf 9 = .ok (.getfield 9, 3) := by decide +kernel
theorem dX7_sizeOf_12 : decode cX7_sizeOf 12 = .ok (.iload_n 1, 1) := by decide +kernel
theorem dX7_sizeOf_13 : decode cX7_sizeOf 13 = .ok (.iaload, 1) := by decide +kernel
theorem dX7_sizeOf_14 : decode cX7_sizeOf 14 = .ok (.goto 4, 3) := by decide +kernel
theorem dX7_sizeOf_17 : decode cX7_sizeOf 17 = .ok (.iconst 0, 1) := by decide +kernel
theorem dX7_sizeOf_18 : decode cX7_sizeOf 18 = .ok (.ireturn, 1) := by decide +kernel
theorem dX7_fullOf_0 : decode cX7_fullOf 0 = .ok (.aload_n 0, 1) := by decide +kernel
theorem dX7_fullOf_1 : decode cX7_fullOf 1 = .ok (.iload_n 1, 1) := by decide +kernel
theorem dX7_fullOf_2 : decode cX7_fullOf 2 = .ok (.invokevirtual 33, 3) := by decide +kernel
theorem dX7_fullOf_5 : decode cX7_fullOf 5 = .ok (.ifCond .eq 12, 3) := by decide +kernel
theorem dX7_fullOf_8 : decode cX7_fullOf 8 = .ok (.aload_n 0, 1) := by decide +kernel
theorem dX7_fullOf_9 : decode cX7_fullOf 9 = .ok (.getfield 15, 3) := by decide +kernel
theorem dX7_fullOf_12 : decode cX7_fullOf 12 = .ok (.iload_n 1, 1) := by decide +kernel
theorem dX7_fullOf_13 : decode cX7_fullOf 13 = .ok (.iaload, 1) := by decide +kernel
theorem dX7_fullOf_14 : decode cX7_fullOf 14 = .ok (.goto 4, 3) := by decide +kernel
theorem dX7_fullOf_17 : decode cX7_fullOf 17 = .ok (.iconst 0, 1) := by decide +kernel
theorem dX7_fullOf_18 : decode cX7_fullOf 18 = .ok (.ireturn, 1) := by decide +kernel
theorem dX7_partOf_0 : decode cX7_partOf 0 = .ok (.aload_n 0, 1) := by decide +kernel
theorem dX7_partOf_1 : decode cX7_partOf 1 = .ok (.iload_n 1, 1) := by decide +kernel
theorem dX7_partOf_2 : decode cX7_partOf 2 = .ok (.invokevirtual 33, 3) := by decide +kernel
theorem dX7_partOf_5 : decode cX7_partOf 5 = .ok (.ifCond .eq 25, 3) := by decide +kernel
theorem dX7_partOf_8 : decode cX7_partOf 8 = .ok (.iload_n 2, 1) := by decide +kernel
theorem dX7_partOf_9 : decode cX7_partOf 9 = .ok (.ifCond .lt 21, 3) := by decide +kernel
theorem dX7_partOf_12 : decode cX7_partOf 12 = .ok (.iload_n 2, 1) := by decide +kernel
theorem dX7_partOf_13 : decode cX7_partOf 13 = .ok (.iconst 4, 1) := by decide +kernel
theorem dX7_partOf_14 : decode cX7_partOf 14 = .ok (.if_icmp .ge 16, 3) := by decide +kernel
theorem dX7_partOf_17 : decode cX7_partOf 17 = .ok (.aload_n 0, 1) := by decide +kernel
theorem dX7_partOf_18 : decode cX7_partOf 18 = .ok (.getfield 18, 3) := by decide +kernel
theorem dX7_partOf_21 : decode cX7_partOf 21 = .ok (.iload_n 1, 1) := by decide +kernel
theorem dX7_partOf_22 : decode cX7_partOf 22 = .ok (.iconst 4, 1) := by decide +kernel
theorem dX7_partOf_23 : decode cX7_partOf 23 = .ok (.imul, 1) := by decide +kernel
theorem dX7_partOf_24 : decode cX7_partOf 24 = .ok (.iload_n 2, 1) := by decide +kernel
theorem dX7_partOf_25 : decode cX7_partOf 25 = .ok (.iadd, 1) := by decide +kernel
theorem dX7_partOf_26 : decode cX7_partOf 26 = .ok (.laload, 1) := by decide +kernel
theorem dX7_partOf_27 : decode cX7_partOf 27 = .ok (.goto 4, 3) := by decide +kernel
theorem dX7_partOf_30 : decode cX7_partOf 30 = .ok (.lconst 0, 1) := by decide +kernel
theorem dX7_partOf_31 : decode cX7_partOf 31 = .ok (.lreturn, 1) := by decide +kernel
theorem dX7_tasteOf_0 : decode cX7_tasteOf 0 = .ok (.aload_n 0, 1) := by decide +kernel
theorem dX7_tasteOf_1 : decode cX7_tasteOf 1 = .ok (.iload_n 1, 1) := by decide +kernel
theorem dX7_tasteOf_2 : decode cX7_tasteOf 2 = .ok (.invokevirtual 33, 3) := by decide +kernel
theorem dX7_tasteOf_5 : decode cX7_tasteOf 5 = .ok (.ifCond .eq 12, 3) := by decide +kernel
theorem dX7_tasteOf_8 : decode cX7_tasteOf 8 = .ok (.iload_n 2, 1) := by decide +kernel
theorem dX7_tasteOf_9 : decode cX7_tasteOf 9 = .ok (.ifCond .lt 8, 3) := by decide +kernel
theorem dX7_tasteOf_12 : decode cX7_tasteOf 12 = .ok (.iload_n 2, 1) := by decide +kernel
theorem dX7_tasteOf_13 : decode cX7_tasteOf 13 = .ok (.iconst 4, 1) := by decide +kernel
theorem dX7_tasteOf_14 : decode cX7_tasteOf 14 = .ok (.if_icmp .lt 5, 3) := by decide +kernel
theorem dX7_tasteOf_17 : decode cX7_tasteOf 17 = .ok (.iconst 0, 1) := by decide +kernel
theorem dX7_tasteOf_18 : decode cX7_tasteOf 18 = .ok (.ireturn, 1) := by decide +kernel
theorem dX7_tasteOf_19 : decode cX7_tasteOf 19 = .ok (.aload_n 0, 1) := by decide +kernel
theorem dX7_tasteOf_20 : decode cX7_tasteOf 20 = .ok (.getfield 25, 3) := by decide +kernel
theorem dX7_tasteOf_23 : decode cX7_tasteOf 23 = .ok (.aload_n 0, 1) := by decide +kernel
theorem dX7_tasteOf_24 : decode cX7_tasteOf 24 = .ok (.getfield 15, 3) := by decide +kernel
theorem dX7_tasteOf_27 : decode cX7_tasteOf 27 = .ok (.iload_n 1, 1) := by decide +kernel
theorem dX7_tasteOf_28 : decode cX7_tasteOf 28 = .ok (.iaload, 1) := by decide +kernel
theorem dX7_tasteOf_29 : decode cX7_tasteOf 29 = .ok (.i2l, 1) := by decide +kernel
theorem dX7_tasteOf_30 : decode cX7_tasteOf 30 = .ok (.lmul, 1) := by decide +kernel
theorem dX7_tasteOf_31 : decode cX7_tasteOf 31 = .ok (.lstore_n 3, 1) := by decide +kernel
theorem dX7_tasteOf_32 : decode cX7_tasteOf 32 = .ok (.lload_n 3, 1) := by decide +kernel
theorem dX7_tasteOf_33 : decode cX7_tasteOf 33 = .ok (.lconst 0, 1) := by decide +kernel
theorem dX7_tasteOf_34 : decode cX7_tasteOf 34 = .ok (.lcmp, 1) := by decide +kernel
theorem dX7_tasteOf_35 : decode cX7_tasteOf 35 = .ok (.ifCond .gt 7, 3) := by decide +kernel
theorem dX7_tasteOf_38 : decode cX7_tasteOf 38 = .ok (.iconst 0, 1) := by decide +kernel
theorem dX7_tasteOf_39 : decode cX7_tasteOf 39 = .ok (.goto 20, 3) := by decide +kernel
theorem dX7_tasteOf_42 : decode cX7_tasteOf 42 = .ok (.ldc2_w 37, 3) := by decide +kernel
theorem dX7_tasteOf_45 : decode cX7_tasteOf 45 = .ok (.aload_n 0, 1) := by decide +kernel
theorem dX7_tasteOf_46 : decode cX7_tasteOf 46 = .ok (.getfield 18, 3) := by decide +kernel
theorem dX7_tasteOf_49 : decode cX7_tasteOf 49 = .ok (.iload_n 1, 1) := by decide +kernel
theorem dX7_tasteOf_50 : decode cX7_tasteOf 50 = .ok (.iconst 4, 1) := by decide +kernel
theorem dX7_tasteOf_51 : decode cX7_tasteOf 51 = .ok (.imul, 1) := by decide +kernel
theorem dX7_tasteOf_52 : decode cX7_tasteOf 52 = .ok (.iload_n 2, 1) := by decide +kernel
theorem dX7_tasteOf_53 : decode cX7_tasteOf 53 = .ok (.iadd, 1) := by decide +kernel
theorem dX7_tasteOf_54 : decode cX7_tasteOf 54 = .ok (.laload, 1) := by decide +kernel
theorem dX7_tasteOf_55 : decode cX7_tasteOf 55 = .ok (.lmul, 1) := by decide +kernel
theorem dX7_tasteOf_56 : decode cX7_tasteOf 56 = .ok (.lload_n 3, 1) := by decide +kernel
theorem dX7_tasteOf_57 : decode cX7_tasteOf 57 = .ok (.ldiv, 1) := by decide +kernel
theorem dX7_tasteOf_58 : decode cX7_tasteOf 58 = .ok (.l2i, 1) := by decide +kernel
theorem dX7_tasteOf_59 : decode cX7_tasteOf 59 = .ok (.ireturn, 1) := by decide +kernel
theorem dX7_asStrong_0 : decode cX7_asStrong 0 = .ok (.aload_n 0, 1) := by decide +kernel
theorem dX7_asStrong_1 : decode cX7_asStrong 1 = .ok (.iload_n 1, 1) := by decide +kernel
theorem dX7_asStrong_2 : decode cX7_asStrong 2 = .ok (.invokevirtual 39, 3) := by decide +kernel
theorem dX7_asStrong_5 : decode cX7_asStrong 5 = .ok (.ifCond .eq 11, 3) := by decide +kernel
theorem dX7_asStrong_8 : decode cX7_asStrong 8 = .ok (.aload_n 0, 1) := by decide +kernel
theorem dX7_asStrong_9 : decode cX7_asStrong 9 = .ok (.iload_n 2, 1) := by decide +kernel
theorem dX7_asStrong_10 : decode cX7_asStrong 10 = .ok (.invokevirtual 39, 3) := by decide +kernel
theorem dX7_asStrong_13 : decode cX7_asStrong 13 = .ok (.ifCond .ne 25, 3) := by decide +kernel
theorem dX7_asStrong_16 : decode cX7_asStrong 16 = .ok (.aload_n 0, 1) := by decide +kernel
theorem dX7_asStrong_17 : decode cX7_asStrong 17 = .ok (.iload_n 1, 1) := by decide +kernel
theorem dX7_asStrong_18 : decode cX7_asStrong 18 = .ok (.iload_n 3, 1) := by decide +kernel
theorem dX7_asStrong_19 : decode cX7_asStrong 19 = .ok (.invokevirtual 43, 3) := by decide +kernel
theorem dX7_asStrong_22 : decode cX7_asStrong 22 = .ok (.aload_n 0, 1) := by decide +kernel
theorem dX7_asStrong_23 : decode cX7_asStrong 23 = .ok (.iload_n 2, 1) := by decide +kernel
theorem dX7_asStrong_24 : decode cX7_asStrong 24 = .ok (.iload_n 3, 1) := by decide +kernel
theorem dX7_asStrong_25 : decode cX7_asStrong 25 = .ok (.invokevirtual 43, 3) := by decide +kernel
theorem dX7_asStrong_28 : decode cX7_asStrong 28 = .ok (.lcmp, 1) := by decide +kernel
theorem dX7_asStrong_29 : decode cX7_asStrong 29 = .ok (.ifCond .ne 7, 3) := by decide +kernel
theorem dX7_asStrong_32 : decode cX7_asStrong 32 = .ok (.iconst 1, 1) := by decide +kernel
theorem dX7_asStrong_33 : decode cX7_asStrong 33 = .ok (.goto 4, 3) := by decide +kernel
theorem dX7_asStrong_36 : decode cX7_asStrong 36 = .ok (.iconst 0, 1) := by decide +kernel
theorem dX7_asStrong_37 : decode cX7_asStrong 37 = .ok (.ireturn, 1) := by decide +kernel
theorem dX7_asStrong_38 : decode cX7_asStrong 38 = .ok (.aload_n 0, 1) := by decide +kernel
theorem dX7_asStrong_39 : decode cX7_asStrong 39 = .ok (.iload_n 1, 1) := by decide +kernel
theorem dX7_asStrong_40 : decode cX7_asStrong 40 = .ok (.iload_n 3, 1) := by decide +kernel
theorem dX7_asStrong_41 : decode cX7_asStrong 41 = .ok (.invokevirtual 43, 3) := by decide +kernel
theorem dX7_asStrong_44 : decode cX7_asStrong 44 = .ok (.aload_n 0, 1) := by decide +kernel
theorem dX7_asStrong_45 : decode cX7_asStrong 45 = .ok (.iload_n 2, 1) := by decide +kernel
theorem dX7_asStrong_46 : decode cX7_asStrong 46 = .ok (.invokevirtual 39, 3) := by decide +kernel
theorem dX7_asStrong_49 : decode cX7_asStrong 49 = .ok (.i2l, 1) := by decide +kernel
theorem dX7_asStrong_50 : decode cX7_asStrong 50 = .ok (.lmul, 1) := by decide +kernel
theorem dX7_asStrong_51 : decode cX7_asStrong 51 = .ok (.aload_n 0, 1) := by decide +kernel
theorem dX7_asStrong_52 : decode cX7_asStrong 52 = .ok (.iload_n 2, 1) := by decide +kernel
theorem dX7_asStrong_53 : decode cX7_asStrong 53 = .ok (.iload_n 3, 1) := by decide +kernel
theorem dX7_asStrong_54 : decode cX7_asStrong 54 = .ok (.invokevirtual 43, 3) := by decide +kernel
theorem dX7_asStrong_57 : decode cX7_asStrong 57 = .ok (.aload_n 0, 1) := by decide +kernel
theorem dX7_asStrong_58 : decode cX7_asStrong 58 = .ok (.iload_n 1, 1) := by decide +kernel
theorem dX7_asStrong_59 : decode cX7_asStrong 59 = .ok (.invokevirtual 39, 3) := by decide +kernel
theorem dX7_asStrong_62 : decode cX7_asStrong 62 = .ok (.i2l, 1) := by decide +kernel
theorem dX7_asStrong_63 : decode cX7_asStrong 63 = .ok (.lmul, 1) := by decide +kernel
theorem dX7_asStrong_64 : decode cX7_asStrong 64 = .ok (.lcmp, 1) := by decide +kernel
theorem dX7_asStrong_65 : decode cX7_asStrong 65 = .ok (.ifCond .ne 7, 3) := by decide +kernel
theorem dX7_asStrong_68 : decode cX7_asStrong 68 = .ok (.iconst 1, 1) := by decide +kernel
theorem dX7_asStrong_69 : decode cX7_asStrong 69 = .ok (.goto 4, 3) := by decide +kernel
theorem dX7_asStrong_72 : decode cX7_asStrong 72 = .ok (.iconst 0, 1) := by decide +kernel
theorem dX7_asStrong_73 : decode cX7_asStrong 73 = .ok (.ireturn, 1) := by decide +kernel
theorem dX7_isNear_0 : decode cX7_isNear 0 = .ok (.aload_n 0, 1) := by decide +kernel
theorem dX7_isNear_1 : decode cX7_isNear 1 = .ok (.iload_n 1, 1) := by decide +kernel
theorem dX7_isNear_2 : decode cX7_isNear 2 = .ok (.invokevirtual 33, 3) := by decide +kernel
theorem dX7_isNear_5 : decode cX7_isNear 5 = .ok (.ifCond .eq 21, 3) := by decide +kernel
theorem dX7_isNear_8 : decode cX7_isNear 8 = .ok (.iload_n 2, 1) := by decide +kernel
theorem dX7_isNear_9 : decode cX7_isNear 9 = .ok (.ifCond .lt 17, 3) := by decide +kernel
theorem dX7_isNear_12 : decode cX7_isNear 12 = .ok (.iload_n 2, 1) := by decide +kernel
theorem dX7_isNear_13 : decode cX7_isNear 13 = .ok (.iconst 4, 1) := by decide +kernel
theorem dX7_isNear_14 : decode cX7_isNear 14 = .ok (.if_icmp .ge 12, 3) := by decide +kernel
theorem dX7_isNear_17 : decode cX7_isNear 17 = .ok (.aload_n 0, 1) := by decide +kernel
theorem dX7_isNear_18 : decode cX7_isNear 18 = .ok (.getfield 15, 3) := by decide +kernel
theorem dX7_isNear_21 : decode cX7_isNear 21 = .ok (.iload_n 1, 1) := by decide +kernel
theorem dX7_isNear_22 : decode cX7_isNear 22 = .ok (.iaload, 1) := by decide +kernel
theorem dX7_isNear_23 : decode cX7_isNear 23 = .ok (.ifCond .gt 5, 3) := by decide +kernel
theorem dX7_isNear_26 : decode cX7_isNear 26 = .ok (.iconst 0, 1) := by decide +kernel
theorem dX7_isNear_27 : decode cX7_isNear 27 = .ok (.ireturn, 1) := by decide +kernel
theorem dX7_isNear_28 : decode cX7_isNear 28 = .ok (.aload_n 0, 1) := by decide +kernel
theorem dX7_isNear_29 : decode cX7_isNear 29 = .ok (.getfield 25, 3) := by decide +kernel
theorem dX7_isNear_32 : decode cX7_isNear 32 = .ok (.aload_n 0, 1) := by decide +kernel
theorem dX7_isNear_33 : decode cX7_isNear 33 = .ok (.getfield 15, 3) := by decide +kernel
theorem dX7_isNear_36 : decode cX7_isNear 36 = .ok (.iload_n 1, 1) := by decide +kernel
theorem dX7_isNear_37 : decode cX7_isNear 37 = .ok (.iaload, 1) := by decide +kernel
theorem dX7_isNear_38 : decode cX7_isNear 38 = .ok (.i2l, 1) := by decide +kernel
theorem dX7_isNear_39 : decode cX7_isNear 39 = .ok (.lmul, 1) := by decide +kernel
theorem dX7_isNear_40 : decode cX7_isNear 40 = .ok (.lstore 5, 2) := by decide +kernel
theorem dX7_isNear_42 : decode cX7_isNear 42 = .ok (.ldc2_w 37, 3) := by decide +kernel
theorem dX7_isNear_45 : decode cX7_isNear 45 = .ok (.aload_n 0, 1) := by decide +kernel
theorem dX7_isNear_46 : decode cX7_isNear 46 = .ok (.getfield 18, 3) := by decide +kernel
theorem dX7_isNear_49 : decode cX7_isNear 49 = .ok (.iload_n 1, 1) := by decide +kernel
theorem dX7_isNear_50 : decode cX7_isNear 50 = .ok (.iconst 4, 1) := by decide +kernel
theorem dX7_isNear_51 : decode cX7_isNear 51 = .ok (.imul, 1) := by decide +kernel
theorem dX7_isNear_52 : decode cX7_isNear 52 = .ok (.iload_n 2, 1) := by decide +kernel
theorem dX7_isNear_53 : decode cX7_isNear 53 = .ok (.iadd, 1) := by decide +kernel
theorem dX7_isNear_54 : decode cX7_isNear 54 = .ok (.laload, 1) := by decide +kernel
theorem dX7_isNear_55 : decode cX7_isNear 55 = .ok (.lmul, 1) := by decide +kernel
theorem dX7_isNear_56 : decode cX7_isNear 56 = .ok (.iload_n 3, 1) := by decide +kernel
theorem dX7_isNear_57 : decode cX7_isNear 57 = .ok (.i2l, 1) := by decide +kernel
theorem dX7_isNear_58 : decode cX7_isNear 58 = .ok (.lload 5, 2) := by decide +kernel
theorem dX7_isNear_60 : decode cX7_isNear 60 = .ok (.lmul, 1) := by decide +kernel
theorem dX7_isNear_61 : decode cX7_isNear 61 = .ok (.lsub, 1) := by decide +kernel
theorem dX7_isNear_62 : decode cX7_isNear 62 = .ok (.invokestatic 47, 3) := by decide +kernel
theorem dX7_isNear_65 : decode cX7_isNear 65 = .ok (.iload 4, 2) := by decide +kernel
theorem dX7_isNear_67 : decode cX7_isNear 67 = .ok (.i2l, 1) := by decide +kernel
theorem dX7_isNear_68 : decode cX7_isNear 68 = .ok (.lload 5, 2) := by decide +kernel
theorem dX7_isNear_70 : decode cX7_isNear 70 = .ok (.lmul, 1) := by decide +kernel
theorem dX7_isNear_71 : decode cX7_isNear 71 = .ok (.lcmp, 1) := by decide +kernel
theorem dX7_isNear_72 : decode cX7_isNear 72 = .ok (.ifCond .gt 7, 3) := by decide +kernel
theorem dX7_isNear_75 : decode cX7_isNear 75 = .ok (.iconst 1, 1) := by decide +kernel
theorem dX7_isNear_76 : decode cX7_isNear 76 = .ok (.goto 4, 3) := by decide +kernel
theorem dX7_isNear_79 : decode cX7_isNear 79 = .ok (.iconst 0, 1) := by decide +kernel
theorem dX7_isNear_80 : decode cX7_isNear 80 = .ok (.ireturn, 1) := by decide +kernel
theorem dX7_add_0 : decode cX7_add 0 = .ok (.aload_n 0, 1) := by decide +kernel
theorem dX7_add_1 : decode cX7_add 1 = .ok (.getfield 29, 3) := by decide +kernel
theorem dX7_add_4 : decode cX7_add 4 = .ok (.bipush 6, 2) := by decide +kernel
theorem dX7_add_6 : decode cX7_add 6 = .ok (.if_icmp .lt 6, 3) := by decide +kernel
theorem dX7_add_9 : decode cX7_add 9 = .ok (.bipush (-5), 2) := by decide +kernel
theorem dX7_add_11 : decode cX7_add 11 = .ok (.ireturn, 1) := by decide +kernel
theorem dX7_add_12 : decode cX7_add 12 = .ok (.aload_n 0, 1) := by decide +kernel
theorem dX7_add_13 : decode cX7_add 13 = .ok (.getfield 9, 3) := by decide +kernel
theorem dX7_add_16 : decode cX7_add 16 = .ok (.aload_n 0, 1) := by decide +kernel
theorem dX7_add_17 : decode cX7_add 17 = .ok (.getfield 29, 3) := by decide +kernel
theorem dX7_add_20 : decode cX7_add 20 = .ok (.iload_n 1, 1) := by decide +kernel
theorem dX7_add_21 : decode cX7_add 21 = .ok (.iastore, 1) := by decide +kernel
theorem dX7_add_22 : decode cX7_add 22 = .ok (.aload_n 0, 1) := by decide +kernel
theorem dX7_add_23 : decode cX7_add 23 = .ok (.dup, 1) := by decide +kernel
theorem dX7_add_24 : decode cX7_add 24 = .ok (.getfield 29, 3) := by decide +kernel
theorem dX7_add_27 : decode cX7_add 27 = .ok (.iconst 1, 1) := by decide +kernel
theorem dX7_add_28 : decode cX7_add 28 = .ok (.iadd, 1) := by decide +kernel
theorem dX7_add_29 : decode cX7_add 29 = .ok (.putfield 29, 3) := by decide +kernel
theorem dX7_add_32 : decode cX7_add 32 = .ok (.aload_n 0, 1) := by decide +kernel
theorem dX7_add_33 : decode cX7_add 33 = .ok (.aload_n 0, 1) := by decide +kernel
theorem dX7_add_34 : decode cX7_add 34 = .ok (.getfield 29, 3) := by decide +kernel
theorem dX7_add_37 : decode cX7_add 37 = .ok (.iconst 1, 1) := by decide +kernel
theorem dX7_add_38 : decode cX7_add 38 = .ok (.isub, 1) := by decide +kernel
theorem dX7_add_39 : decode cX7_add 39 = .ok (.invokevirtual 53, 3) := by decide +kernel
theorem dX7_add_42 : decode cX7_add 42 = .ok (.aload_n 0, 1) := by decide +kernel
theorem dX7_add_43 : decode cX7_add 43 = .ok (.getfield 29, 3) := by decide +kernel
theorem dX7_add_46 : decode cX7_add 46 = .ok (.iconst 1, 1) := by decide +kernel
theorem dX7_add_47 : decode cX7_add 47 = .ok (.isub, 1) := by decide +kernel
theorem dX7_add_48 : decode cX7_add 48 = .ok (.ireturn, 1) := by decide +kernel
theorem dX7_clear_0 : decode cX7_clear 0 = .ok (.aload_n 0, 1) := by decide +kernel
theorem dX7_clear_1 : decode cX7_clear 1 = .ok (.iload_n 1, 1) := by decide +kernel
theorem dX7_clear_2 : decode cX7_clear 2 = .ok (.invokevirtual 33, 3) := by decide +kernel
theorem dX7_clear_5 : decode cX7_clear 5 = .ok (.ifCond .ne 4, 3) := by decide +kernel
theorem dX7_clear_8 : decode cX7_clear 8 = .ok (.return_, 1) := by decide +kernel
theorem dX7_clear_9 : decode cX7_clear 9 = .ok (.aload_n 0, 1) := by decide +kernel
theorem dX7_clear_10 : decode cX7_clear 10 = .ok (.getfield 15, 3) := by decide +kernel
theorem dX7_clear_13 : decode cX7_clear 13 = .ok (.iload_n 1, 1) := by decide +kernel
theorem dX7_clear_14 : decode cX7_clear 14 = .ok (.iconst 0, 1) := by decide +kernel
theorem dX7_clear_15 : decode cX7_clear 15 = .ok (.iastore, 1) := by decide +kernel
theorem dX7_clear_16 : decode cX7_clear 16 = .ok (.iconst 0, 1) := by decide +kernel
theorem dX7_clear_17 : decode cX7_clear 17 = .ok (.istore_n 2, 1) := by decide +kernel
theorem dX7_clear_18 : decode cX7_clear 18 = .ok (.iload_n 2, 1) := by decide +kernel
theorem dX7_clear_19 : decode cX7_clear 19 = .ok (.iconst 4, 1) := by decide +kernel
theorem dX7_clear_20 : decode cX7_clear 20 = .ok (.if_icmp .ge 20, 3) := by decide +kernel
theorem dX7_clear_23 : decode cX7_clear 23 = .ok (.aload_n 0, 1) := by decide +kernel
theorem dX7_clear_24 : decode cX7_clear 24 = .ok (.getfield 18, 3) := by decide +kernel
theorem dX7_clear_27 : decode cX7_clear 27 = .ok (.iload_n 1, 1) := by decide +kernel
theorem dX7_clear_28 : decode cX7_clear 28 = .ok (.iconst 4, 1) := by decide +kernel
theorem dX7_clear_29 : decode cX7_clear 29 = .ok (.imul, 1) := by decide +kernel
theorem dX7_clear_30 : decode cX7_clear 30 = .ok (.iload_n 2, 1) := by decide +kernel
theorem dX7_clear_31 : decode cX7_clear 31 = .ok (.iadd, 1) := by decide +kernel
theorem dX7_clear_32 : decode cX7_clear 32 = .ok (.lconst 0, 1) := by decide +kernel
theorem dX7_clear_33 : decode cX7_clear 33 = .ok (.lastore, 1) := by decide +kernel
theorem dX7_clear_34 : decode cX7_clear 34 = .ok (.iinc 2 1, 3) := by decide +kernel
theorem dX7_clear_37 : decode cX7_clear 37 = .ok (.goto (-19), 3) := by decide +kernel
theorem dX7_clear_40 : decode cX7_clear 40 = .ok (.return_, 1) := by decide +kernel
theorem dX7_pour_0 : decode cX7_pour 0 = .ok (.iload_n 3, 1) := by decide +kernel
theorem dX7_pour_1 : decode cX7_pour 1 = .ok (.invokestatic 57, 3) := by decide +kernel
theorem dX7_pour_4 : decode cX7_pour 4 = .ok (.ifCond .eq 25, 3) := by decide +kernel
theorem dX7_pour_7 : decode cX7_pour 7 = .ok (.iload_n 2, 1) := by decide +kernel
theorem dX7_pour_8 : decode cX7_pour 8 = .ok (.invokestatic 60, 3) := by decide +kernel
theorem dX7_pour_11 : decode cX7_pour 11 = .ok (.ifCond .eq 18, 3) := by decide +kernel
theorem dX7_pour_14 : decode cX7_pour 14 = .ok (.aload_n 0, 1) := by decide +kernel
theorem dX7_pour_15 : decode cX7_pour 15 = .ok (.iload_n 1, 1) := by decide +kernel
theorem dX7_pour_16 : decode cX7_pour 16 = .ok (.invokevirtual 63, 3) := by decide +kernel
theorem dX7_pour_19 : decode cX7_pour 19 = .ok (.aload_n 0, 1) := by decide +kernel
theorem dX7_pour_20 : decode cX7_pour 20 = .ok (.iload_n 1, 1) := by decide +kernel
theorem dX7_pour_21 : decode cX7_pour 21 = .ok (.invokevirtual 39, 3) := by decide +kernel
theorem dX7_pour_24 : decode cX7_pour 24 = .ok (.isub, 1) := by decide +kernel
theorem dX7_pour_25 : decode cX7_pour 25 = .ok (.iload_n 3, 1) := by decide +kernel
theorem dX7_pour_26 : decode cX7_pour 26 = .ok (.if_icmp .ge 6, 3) := by decide +kernel
theorem dX7_pour_29 : decode cX7_pour 29 = .ok (.bipush (-3), 2) := by decide +kernel
theorem dX7_pour_31 : decode cX7_pour 31 = .ok (.ireturn, 1) := by decide +kernel
theorem dX7_pour_32 : decode cX7_pour 32 = .ok (.aload_n 0, 1) := by decide +kernel
theorem dX7_pour_33 : decode cX7_pour 33 = .ok (.getfield 15, 3) := by decide +kernel
theorem dX7_pour_36 : decode cX7_pour 36 = .ok (.iload_n 1, 1) := by decide +kernel
theorem dX7_pour_37 : decode cX7_pour 37 = .ok (.dup2, 1) := by decide +kernel
theorem dX7_pour_38 : decode cX7_pour 38 = .ok (.iaload, 1) := by decide +kernel
theorem dX7_pour_39 : decode cX7_pour 39 = .ok (.iload_n 3, 1) := by decide +kernel
theorem dX7_pour_40 : decode cX7_pour 40 = .ok (.iadd, 1) := by decide +kernel
theorem dX7_pour_41 : decode cX7_pour 41 = .ok (.iastore, 1) := by decide +kernel
theorem dX7_pour_42 : decode cX7_pour 42 = .ok (.aload_n 0, 1) := by decide +kernel
theorem dX7_pour_43 : decode cX7_pour 43 = .ok (.getfield 18, 3) := by decide +kernel
theorem dX7_pour_46 : decode cX7_pour 46 = .ok (.iload_n 1, 1) := by decide +kernel
theorem dX7_pour_47 : decode cX7_pour 47 = .ok (.iconst 4, 1) := by decide +kernel
theorem dX7_pour_48 : decode cX7_pour 48 = .ok (.imul, 1) := by decide +kernel
theorem dX7_pour_49 : decode cX7_pour 49 = .ok (.iload_n 2, 1) := by decide +kernel
theorem dX7_pour_50 : decode cX7_pour 50 = .ok (.iadd, 1) := by decide +kernel
theorem dX7_pour_51 : decode cX7_pour 51 = .ok (.dup2, 1) := by decide +kernel
theorem dX7_pour_52 : decode cX7_pour 52 = .ok (.laload, 1) := by decide +kernel
theorem dX7_pour_53 : decode cX7_pour 53 = .ok (.iload_n 3, 1) := by decide +kernel
theorem dX7_pour_54 : decode cX7_pour 54 = .ok (.i2l, 1) := by decide +kernel
theorem dX7_pour_55 : decode cX7_pour 55 = .ok (.aload_n 0, 1) := by decide +kernel
theorem dX7_pour_56 : decode cX7_pour 56 = .ok (.getfield 25, 3) := by decide +kernel
theorem dX7_pour_59 : decode cX7_pour 59 = .ok (.lmul, 1) := by decide +kernel
theorem dX7_pour_60 : decode cX7_pour 60 = .ok (.ladd, 1) := by decide +kernel
theorem dX7_pour_61 : decode cX7_pour 61 = .ok (.lastore, 1) := by decide +kernel
theorem dX7_pour_62 : decode cX7_pour 62 = .ok (.iconst 0, 1) := by decide +kernel
theorem dX7_pour_63 : decode cX7_pour 63 = .ok (.ireturn, 1) := by decide +kernel
theorem dX7_canCarry_0 : decode cX7_canCarry 0 = .ok (.iload_n 3, 1) := by decide +kernel
theorem dX7_canCarry_1 : decode cX7_canCarry 1 = .ok (.invokestatic 57, 3) := by decide +kernel
theorem dX7_canCarry_4 : decode cX7_canCarry 4 = .ok (.ifCond .eq 36, 3) := by decide +kernel
theorem dX7_canCarry_7 : decode cX7_canCarry 7 = .ok (.iload_n 1, 1) := by decide +kernel
theorem dX7_canCarry_8 : decode cX7_canCarry 8 = .ok (.iload_n 2, 1) := by decide +kernel
theorem dX7_canCarry_9 : decode cX7_canCarry 9 = .ok (.if_icmp .eq 31, 3) := by decide +kernel
theorem dX7_canCarry_12 : decode cX7_canCarry 12 = .ok (.aload_n 0, 1) := by decide +kernel
theorem dX7_canCarry_13 : decode cX7_canCarry 13 = .ok (.iload_n 1, 1) := by decide +kernel
theorem dX7_canCarry_14 : decode cX7_canCarry 14 = .ok (.invokevirtual 39, 3) := by decide +kernel
theorem dX7_canCarry_17 : decode cX7_canCarry 17 = .ok (.iload_n 3, 1) := by decide +kernel
theorem dX7_canCarry_18 : decode cX7_canCarry 18 = .ok (.if_icmp .lt 22, 3) := by decide +kernel
theorem dX7_canCarry_21 : decode cX7_canCarry 21 = .ok (.aload_n 0, 1) := by decide +kernel
theorem dX7_canCarry_22 : decode cX7_canCarry 22 = .ok (.iload_n 2, 1) := by decide +kernel
theorem dX7_canCarry_23 : decode cX7_canCarry 23 = .ok (.invokevirtual 63, 3) := by decide +kernel
theorem dX7_canCarry_26 : decode cX7_canCarry 26 = .ok (.aload_n 0, 1) := by decide +kernel
theorem dX7_canCarry_27 : decode cX7_canCarry 27 = .ok (.iload_n 2, 1) := by decide +kernel
theorem dX7_canCarry_28 : decode cX7_canCarry 28 = .ok (.invokevirtual 39, 3) := by decide +kernel
theorem dX7_canCarry_31 : decode cX7_canCarry 31 = .ok (.isub, 1) := by decide +kernel
theorem dX7_canCarry_32 : decode cX7_canCarry 32 = .ok (.iload_n 3, 1) := by decide +kernel
theorem dX7_canCarry_33 : decode cX7_canCarry 33 = .ok (.if_icmp .lt 7, 3) := by decide +kernel
theorem dX7_canCarry_36 : decode cX7_canCarry 36 = .ok (.iconst 1, 1) := by decide +kernel
theorem dX7_canCarry_37 : decode cX7_canCarry 37 = .ok (.goto 4, 3) := by decide +kernel
theorem dX7_canCarry_40 : decode cX7_canCarry 40 = .ok (.iconst 0, 1) := by decide +kernel
theorem dX7_canCarry_41 : decode cX7_canCarry 41 = .ok (.ireturn, 1) := by decide +kernel
theorem dX7_carry_0 : decode cX7_carry 0 = .ok (.aload_n 0, 1) := by decide +kernel
theorem dX7_carry_1 : decode cX7_carry 1 = .ok (.iload_n 1, 1) := by decide +kernel
theorem dX7_carry_2 : decode cX7_carry 2 = .ok (.iload_n 2, 1) := by decide +kernel
theorem dX7_carry_3 : decode cX7_carry 3 = .ok (.iload_n 3, 1) := by decide +kernel
theorem dX7_carry_4 : decode cX7_carry 4 = .ok (.invokevirtual 66, 3) := by decide +kernel
theorem dX7_carry_7 : decode cX7_carry 7 = .ok (.ifCond .ne 6, 3) := by decide +kernel
theorem dX7_carry_10 : decode cX7_carry 10 = .ok (.bipush (-3), 2) := by decide +kernel
theorem dX7_carry_12 : decode cX7_carry 12 = .ok (.ireturn, 1) := by decide +kernel
theorem dX7_carry_13 : decode cX7_carry 13 = .ok (.aload_n 0, 1) := by decide +kernel
theorem dX7_carry_14 : decode cX7_carry 14 = .ok (.iload_n 1, 1) := by decide +kernel
theorem dX7_carry_15 : decode cX7_carry 15 = .ok (.iload_n 2, 1) := by decide +kernel
theorem dX7_carry_16 : decode cX7_carry 16 = .ok (.iload_n 3, 1) := by decide +kernel
theorem dX7_carry_17 : decode cX7_carry 17 = .ok (.invokevirtual 70, 3) := by decide +kernel
theorem dX7_carry_20 : decode cX7_carry 20 = .ok (.aload_n 0, 1) := by decide +kernel
theorem dX7_carry_21 : decode cX7_carry 21 = .ok (.aload_n 0, 1) := by decide +kernel
theorem dX7_carry_22 : decode cX7_carry 22 = .ok (.getfield 25, 3) := by decide +kernel
theorem dX7_carry_25 : decode cX7_carry 25 = .ok (.aload_n 0, 1) := by decide +kernel
theorem dX7_carry_26 : decode cX7_carry 26 = .ok (.getfield 15, 3) := by decide +kernel
theorem dX7_carry_29 : decode cX7_carry 29 = .ok (.iload_n 1, 1) := by decide +kernel
theorem dX7_carry_30 : decode cX7_carry 30 = .ok (.iaload, 1) := by decide +kernel
theorem dX7_carry_31 : decode cX7_carry 31 = .ok (.i2l, 1) := by decide +kernel
theorem dX7_carry_32 : decode cX7_carry 32 = .ok (.lmul, 1) := by decide +kernel
theorem dX7_carry_33 : decode cX7_carry 33 = .ok (.invokevirtual 74, 3) := by decide +kernel
theorem dX7_carry_36 : decode cX7_carry 36 = .ok (.ifCond .ne 6, 3) := by decide +kernel
theorem dX7_carry_39 : decode cX7_carry 39 = .ok (.bipush (-5), 2) := by decide +kernel
theorem dX7_carry_41 : decode cX7_carry 41 = .ok (.ireturn, 1) := by decide +kernel
theorem dX7_carry_42 : decode cX7_carry 42 = .ok (.aload_n 0, 1) := by decide +kernel
theorem dX7_carry_43 : decode cX7_carry 43 = .ok (.getfield 15, 3) := by decide +kernel
theorem dX7_carry_46 : decode cX7_carry 46 = .ok (.iload_n 1, 1) := by decide +kernel
theorem dX7_carry_47 : decode cX7_carry 47 = .ok (.dup2, 1) := by decide +kernel
theorem dX7_carry_48 : decode cX7_carry 48 = .ok (.iaload, 1) := by decide +kernel
theorem dX7_carry_49 : decode cX7_carry 49 = .ok (.iload_n 3, 1) := by decide +kernel
theorem dX7_carry_50 : decode cX7_carry 50 = .ok (.isub, 1) := by decide +kernel
theorem dX7_carry_51 : decode cX7_carry 51 = .ok (.iastore, 1) := by decide +kernel
theorem dX7_carry_52 : decode cX7_carry 52 = .ok (.aload_n 0, 1) := by decide +kernel
theorem dX7_carry_53 : decode cX7_carry 53 = .ok (.getfield 15, 3) := by decide +kernel
theorem dX7_carry_56 : decode cX7_carry 56 = .ok (.iload_n 2, 1) := by decide +kernel
theorem dX7_carry_57 : decode cX7_carry 57 = .ok (.dup2, 1) := by decide +kernel
theorem dX7_carry_58 : decode cX7_carry 58 = .ok (.iaload, 1) := by decide +kernel
theorem dX7_carry_59 : decode cX7_carry 59 = .ok (.iload_n 3, 1) := by decide +kernel
theorem dX7_carry_60 : decode cX7_carry 60 = .ok (.iadd, 1) := by decide +kernel
theorem dX7_carry_61 : decode cX7_carry 61 = .ok (.iastore, 1) := by decide +kernel
theorem dX7_carry_62 : decode cX7_carry 62 = .ok (.iconst 0, 1) := by decide +kernel
theorem dX7_carry_63 : decode cX7_carry 63 = .ok (.ireturn, 1) := by decide +kernel
theorem dX7_takeOut_0 : decode cX7_takeOut 0 = .ok (.iload_n 2, 1) := by decide +kernel
theorem dX7_takeOut_1 : decode cX7_takeOut 1 = .ok (.invokestatic 57, 3) := by decide +kernel
theorem dX7_takeOut_4 : decode cX7_takeOut 4 = .ok (.ifCond .eq 12, 3) := by decide +kernel
theorem dX7_takeOut_7 : decode cX7_takeOut 7 = .ok (.aload_n 0, 1) := by decide +kernel
theorem dX7_takeOut_8 : decode cX7_takeOut 8 = .ok (.iload_n 1, 1) := by decide +kernel
theorem dX7_takeOut_9 : decode cX7_takeOut 9 = .ok (.invokevirtual 39, 3) := by decide +kernel
theorem dX7_takeOut_12 : decode cX7_takeOut 12 = .ok (.iload_n 2, 1) := by decide +kernel
theorem dX7_takeOut_13 : decode cX7_takeOut 13 = .ok (.if_icmp .ge 6, 3) := by decide +kernel
theorem dX7_takeOut_16 : decode cX7_takeOut 16 = .ok (.bipush (-3), 2) := by decide +kernel
theorem dX7_takeOut_18 : decode cX7_takeOut 18 = .ok (.ireturn, 1) := by decide +kernel
theorem dX7_takeOut_19 : decode cX7_takeOut 19 = .ok (.aload_n 0, 1) := by decide +kernel
theorem dX7_takeOut_20 : decode cX7_takeOut 20 = .ok (.iload_n 1, 1) := by decide +kernel
theorem dX7_takeOut_21 : decode cX7_takeOut 21 = .ok (.iconst (-1), 1) := by decide +kernel
theorem dX7_takeOut_22 : decode cX7_takeOut 22 = .ok (.iload_n 2, 1) := by decide +kernel
theorem dX7_takeOut_23 : decode cX7_takeOut 23 = .ok (.invokevirtual 70, 3) := by decide +kernel
theorem dX7_takeOut_26 : decode cX7_takeOut 26 = .ok (.aload_n 0, 1) := by decide +kernel
theorem dX7_takeOut_27 : decode cX7_takeOut 27 = .ok (.aload_n 0, 1) := by decide +kernel
theorem dX7_takeOut_28 : decode cX7_takeOut 28 = .ok (.getfield 25, 3) := by decide +kernel
theorem dX7_takeOut_31 : decode cX7_takeOut 31 = .ok (.aload_n 0, 1) := by decide +kernel
theorem dX7_takeOut_32 : decode cX7_takeOut 32 = .ok (.getfield 15, 3) := by decide +kernel
theorem dX7_takeOut_35 : decode cX7_takeOut 35 = .ok (.iload_n 1, 1) := by decide +kernel
theorem dX7_takeOut_36 : decode cX7_takeOut 36 = .ok (.iaload, 1) := by decide +kernel
theorem dX7_takeOut_37 : decode cX7_takeOut 37 = .ok (.i2l, 1) := by decide +kernel
theorem dX7_takeOut_38 : decode cX7_takeOut 38 = .ok (.lmul, 1) := by decide +kernel
theorem dX7_takeOut_39 : decode cX7_takeOut 39 = .ok (.invokevirtual 74, 3) := by decide +kernel
theorem dX7_takeOut_42 : decode cX7_takeOut 42 = .ok (.ifCond .ne 6, 3) := by decide +kernel
theorem dX7_takeOut_45 : decode cX7_takeOut 45 = .ok (.bipush (-5), 2) := by decide +kernel
theorem dX7_takeOut_47 : decode cX7_takeOut 47 = .ok (.ireturn, 1) := by decide +kernel
theorem dX7_takeOut_48 : decode cX7_takeOut 48 = .ok (.aload_n 0, 1) := by decide +kernel
theorem dX7_takeOut_49 : decode cX7_takeOut 49 = .ok (.getfield 15, 3) := by decide +kernel
theorem dX7_takeOut_52 : decode cX7_takeOut 52 = .ok (.iload_n 1, 1) := by decide +kernel
theorem dX7_takeOut_53 : decode cX7_takeOut 53 = .ok (.dup2, 1) := by decide +kernel
theorem dX7_takeOut_54 : decode cX7_takeOut 54 = .ok (.iaload, 1) := by decide +kernel
theorem dX7_takeOut_55 : decode cX7_takeOut 55 = .ok (.iload_n 2, 1) := by decide +kernel
theorem dX7_takeOut_56 : decode cX7_takeOut 56 = .ok (.isub, 1) := by decide +kernel
theorem dX7_takeOut_57 : decode cX7_takeOut 57 = .ok (.iastore, 1) := by decide +kernel
theorem dX7_takeOut_58 : decode cX7_takeOut 58 = .ok (.iconst 0, 1) := by decide +kernel
theorem dX7_takeOut_59 : decode cX7_takeOut 59 = .ok (.ireturn, 1) := by decide +kernel
theorem dX7_share_0 : decode cX7_share 0 = .ok (.iconst 0, 1) := by decide +kernel
theorem dX7_share_1 : decode cX7_share 1 = .ok (.istore 4, 2) := by decide +kernel
theorem dX7_share_3 : decode cX7_share 3 = .ok (.iload 4, 2) := by decide +kernel
theorem dX7_share_5 : decode cX7_share 5 = .ok (.aload_n 0, 1) := by decide +kernel
theorem dX7_share_6 : decode cX7_share 6 = .ok (.getfield 29, 3) := by decide +kernel
theorem dX7_share_9 : decode cX7_share 9 = .ok (.iconst 4, 1) := by decide +kernel
theorem dX7_share_10 : decode cX7_share 10 = .ok (.imul, 1) := by decide +kernel
theorem dX7_share_11 : decode cX7_share 11 = .ok (.if_icmp .ge 31, 3) := by decide +kernel
theorem dX7_share_14 : decode cX7_share 14 = .ok (.aload_n 0, 1) := by decide +kernel
theorem dX7_share_15 : decode cX7_share 15 = .ok (.getfield 22, 3) := by decide +kernel
theorem dX7_share_18 : decode cX7_share 18 = .ok (.iload 4, 2) := by decide +kernel
theorem dX7_share_20 : decode cX7_share 20 = .ok (.aload_n 0, 1) := by decide +kernel
theorem dX7_share_21 : decode cX7_share 21 = .ok (.getfield 18, 3) := by decide +kernel
theorem dX7_share_24 : decode cX7_share 24 = .ok (.iload 4, 2) := by decide +kernel
theorem dX7_share_26 : decode cX7_share 26 = .ok (.laload, 1) := by decide +kernel
theorem dX7_share_27 : decode cX7_share 27 = .ok (.aload_n 0, 1) := by decide +kernel
theorem dX7_share_28 : decode cX7_share 28 = .ok (.getfield 15, 3) := by decide +kernel
theorem dX7_share_31 : decode cX7_share 31 = .ok (.iload_n 1, 1) := by decide +kernel
theorem dX7_share_32 : decode cX7_share 32 = .ok (.iaload, 1) := by decide +kernel
theorem dX7_share_33 : decode cX7_share 33 = .ok (.i2l, 1) := by decide +kernel
theorem dX7_share_34 : decode cX7_share 34 = .ok (.lmul, 1) := by decide +kernel
theorem dX7_share_35 : decode cX7_share 35 = .ok (.lastore, 1) := by decide +kernel
theorem dX7_share_36 : decode cX7_share 36 = .ok (.iinc 4 1, 3) := by decide +kernel
theorem dX7_share_39 : decode cX7_share 39 = .ok (.goto (-36), 3) := by decide +kernel
theorem dX7_share_42 : decode cX7_share 42 = .ok (.iconst 0, 1) := by decide +kernel
theorem dX7_share_43 : decode cX7_share 43 = .ok (.istore 4, 2) := by decide +kernel
theorem dX7_share_45 : decode cX7_share 45 = .ok (.iload 4, 2) := by decide +kernel
theorem dX7_share_47 : decode cX7_share 47 = .ok (.iconst 4, 1) := by decide +kernel
theorem dX7_share_48 : decode cX7_share 48 = .ok (.if_icmp .ge 65, 3) := by decide +kernel
theorem dX7_share_51 : decode cX7_share 51 = .ok (.aload_n 0, 1) := by decide +kernel
theorem dX7_share_52 : decode cX7_share 52 = .ok (.getfield 18, 3) := by decide +kernel
theorem dX7_share_55 : decode cX7_share 55 = .ok (.iload_n 1, 1) := by decide +kernel
theorem dX7_share_56 : decode cX7_share 56 = .ok (.iconst 4, 1) := by decide +kernel
theorem dX7_share_57 : decode cX7_share 57 = .ok (.imul, 1) := by decide +kernel
theorem dX7_share_58 : decode cX7_share 58 = .ok (.iload 4, 2) := by decide +kernel
theorem dX7_share_60 : decode cX7_share 60 = .ok (.iadd, 1) := by decide +kernel
theorem dX7_share_61 : decode cX7_share 61 = .ok (.laload, 1) := by decide +kernel
theorem dX7_share_62 : decode cX7_share 62 = .ok (.iload_n 3, 1) := by decide +kernel
theorem dX7_share_63 : decode cX7_share 63 = .ok (.i2l, 1) := by decide +kernel
theorem dX7_share_64 : decode cX7_share 64 = .ok (.lmul, 1) := by decide +kernel
theorem dX7_share_65 : decode cX7_share 65 = .ok (.lstore 5, 2) := by decide +kernel
theorem dX7_share_67 : decode cX7_share 67 = .ok (.aload_n 0, 1) := by decide +kernel
theorem dX7_share_68 : decode cX7_share 68 = .ok (.getfield 22, 3) := by decide +kernel
theorem dX7_share_71 : decode cX7_share 71 = .ok (.iload_n 1, 1) := by decide +kernel
theorem dX7_share_72 : decode cX7_share 72 = .ok (.iconst 4, 1) := by decide +kernel
theorem dX7_share_73 : decode cX7_share 73 = .ok (.imul, 1) := by decide +kernel
theorem dX7_share_74 : decode cX7_share 74 = .ok (.iload 4, 2) := by decide +kernel
theorem dX7_share_76 : decode cX7_share 76 = .ok (.iadd, 1) := by decide +kernel
theorem dX7_share_77 : decode cX7_share 77 = .ok (.dup2, 1) := by decide +kernel
theorem dX7_share_78 : decode cX7_share 78 = .ok (.laload, 1) := by decide +kernel
theorem dX7_share_79 : decode cX7_share 79 = .ok (.lload 5, 2) := by decide +kernel
theorem dX7_share_81 : decode cX7_share 81 = .ok (.lsub, 1) := by decide +kernel
theorem dX7_share_82 : decode cX7_share 82 = .ok (.lastore, 1) := by decide +kernel
theorem dX7_share_83 : decode cX7_share 83 = .ok (.aload_n 0, 1) := by decide +kernel
theorem dX7_share_84 : decode cX7_share 84 = .ok (.iload_n 2, 1) := by decide +kernel
theorem dX7_share_85 : decode cX7_share 85 = .ok (.invokevirtual 33, 3) := by decide +kernel
theorem dX7_share_88 : decode cX7_share 88 = .ok (.ifCond .eq 19, 3) := by decide +kernel
theorem dX7_share_91 : decode cX7_share 91 = .ok (.aload_n 0, 1) := by decide +kernel
theorem dX7_share_92 : decode cX7_share 92 = .ok (.getfield 22, 3) := by decide +kernel
theorem dX7_share_95 : decode cX7_share 95 = .ok (.iload_n 2, 1) := by decide +kernel
theorem dX7_share_96 : decode cX7_share 96 = .ok (.iconst 4, 1) := by decide +kernel
theorem dX7_share_97 : decode cX7_share 97 = .ok (.imul, 1) := by decide +kernel
theorem dX7_share_98 : decode cX7_share 98 = .ok (.iload 4, 2) := by decide +kernel
theorem dX7_share_100 : decode cX7_share 100 = .ok (.iadd, 1) := by decide +kernel
theorem dX7_share_101 : decode cX7_share 101 = .ok (.dup2, 1) := by decide +kernel
theorem dX7_share_102 : decode cX7_share 102 = .ok (.laload, 1) := by decide +kernel
theorem dX7_share_103 : decode cX7_share 103 = .ok (.lload 5, 2) := by decide +kernel
theorem dX7_share_105 : decode cX7_share 105 = .ok (.ladd, 1) := by decide +kernel
theorem dX7_share_106 : decode cX7_share 106 = .ok (.lastore, 1) := by decide +kernel
theorem dX7_share_107 : decode cX7_share 107 = .ok (.iinc 4 1, 3) := by decide +kernel
theorem dX7_share_110 : decode cX7_share 110 = .ok (.goto (-65), 3) := by decide +kernel
theorem dX7_share_113 : decode cX7_share 113 = .ok (.return_, 1) := by decide +kernel
theorem dX7_settle_0 : decode cX7_settle 0 = .ok (.lload_n 1, 1) := by decide +kernel
theorem dX7_settle_1 : decode cX7_settle 1 = .ok (.ldc2_w 78, 3) := by decide +kernel
theorem dX7_settle_4 : decode cX7_settle 4 = .ok (.lcmp, 1) := by decide +kernel
theorem dX7_settle_5 : decode cX7_settle 5 = .ok (.ifCond .le 15, 3) := by decide +kernel
theorem dX7_settle_8 : decode cX7_settle 8 = .ok (.aload_n 0, 1) := by decide +kernel
theorem dX7_settle_9 : decode cX7_settle 9 = .ok (.aload_n 0, 1) := by decide +kernel
theorem dX7_settle_10 : decode cX7_settle 10 = .ok (.getfield 22, 3) := by decide +kernel
theorem dX7_settle_13 : decode cX7_settle 13 = .ok (.lload_n 1, 1) := by decide +kernel
theorem dX7_settle_14 : decode cX7_settle 14 = .ok (.invokevirtual 80, 3) := by decide +kernel
theorem dX7_settle_17 : decode cX7_settle 17 = .ok (.goto 4, 3) := by decide +kernel
theorem dX7_settle_20 : decode cX7_settle 20 = .ok (.lconst 1, 1) := by decide +kernel
theorem dX7_settle_21 : decode cX7_settle 21 = .ok (.lstore_n 3, 1) := by decide +kernel
theorem dX7_settle_22 : decode cX7_settle 22 = .ok (.lload_n 3, 1) := by decide +kernel
theorem dX7_settle_23 : decode cX7_settle 23 = .ok (.lconst 0, 1) := by decide +kernel
theorem dX7_settle_24 : decode cX7_settle 24 = .ok (.lcmp, 1) := by decide +kernel
theorem dX7_settle_25 : decode cX7_settle 25 = .ok (.ifCond .le 13, 3) := by decide +kernel
theorem dX7_settle_28 : decode cX7_settle 28 = .ok (.lload_n 1, 1) := by decide +kernel
theorem dX7_settle_29 : decode cX7_settle 29 = .ok (.lload_n 3, 1) := by decide +kernel
theorem dX7_settle_30 : decode cX7_settle 30 = .ok (.ldiv, 1) := by decide +kernel
theorem dX7_settle_31 : decode cX7_settle 31 = .ok (.ldc2_w 78, 3) := by decide +kernel
theorem dX7_settle_34 : decode cX7_settle 34 = .ok (.lcmp, 1) := by decide +kernel
theorem dX7_settle_35 : decode cX7_settle 35 = .ok (.ifCond .le 5, 3) := by decide +kernel
theorem dX7_settle_38 : decode cX7_settle 38 = .ok (.iconst 0, 1) := by decide +kernel
theorem dX7_settle_39 : decode cX7_settle 39 = .ok (.ireturn, 1) := by decide +kernel
theorem dX7_settle_40 : decode cX7_settle 40 = .ok (.aload_n 0, 1) := by decide +kernel
theorem dX7_settle_41 : decode cX7_settle 41 = .ok (.aload_n 0, 1) := by decide +kernel
theorem dX7_settle_42 : decode cX7_settle 42 = .ok (.getfield 22, 3) := by decide +kernel
theorem dX7_settle_45 : decode cX7_settle 45 = .ok (.lload_n 3, 1) := by decide +kernel
theorem dX7_settle_46 : decode cX7_settle 46 = .ok (.invokevirtual 84, 3) := by decide +kernel
theorem dX7_settle_49 : decode cX7_settle 49 = .ok (.aload_n 0, 1) := by decide +kernel
theorem dX7_settle_50 : decode cX7_settle 50 = .ok (.lload_n 1, 1) := by decide +kernel
theorem dX7_settle_51 : decode cX7_settle 51 = .ok (.lload_n 3, 1) := by decide +kernel
theorem dX7_settle_52 : decode cX7_settle 52 = .ok (.ldiv, 1) := by decide +kernel
theorem dX7_settle_53 : decode cX7_settle 53 = .ok (.putfield 25, 3) := by decide +kernel
theorem dX7_settle_56 : decode cX7_settle 56 = .ok (.aload_n 0, 1) := by decide +kernel
theorem dX7_settle_57 : decode cX7_settle 57 = .ok (.getfield 18, 3) := by decide +kernel
theorem dX7_settle_60 : decode cX7_settle 60 = .ok (.astore 5, 2) := by decide +kernel
theorem dX7_settle_62 : decode cX7_settle 62 = .ok (.aload_n 0, 1) := by decide +kernel
theorem dX7_settle_63 : decode cX7_settle 63 = .ok (.aload_n 0, 1) := by decide +kernel
theorem dX7_settle_64 : decode cX7_settle 64 = .ok (.getfield 22, 3) := by decide +kernel
theorem dX7_settle_67 : decode cX7_settle 67 = .ok (.putfield 18, 3) := by decide +kernel
theorem dX7_settle_70 : decode cX7_settle 70 = .ok (.aload_n 0, 1) := by decide +kernel
theorem dX7_settle_71 : decode cX7_settle 71 = .ok (.aload 5, 2) := by decide +kernel
theorem dX7_settle_73 : decode cX7_settle 73 = .ok (.putfield 22, 3) := by decide +kernel
theorem dX7_settle_76 : decode cX7_settle 76 = .ok (.iconst 1, 1) := by decide +kernel
theorem dX7_settle_77 : decode cX7_settle 77 = .ok (.ireturn, 1) := by decide +kernel
theorem dX7_toLowestTerms_0 : decode cX7_toLowestTerms 0 = .ok (.aload_n 0, 1) := by decide +kernel
theorem dX7_toLowestTerms_1 : decode cX7_toLowestTerms 1 = .ok (.aload_n 0, 1) := by decide +kernel
theorem dX7_toLowestTerms_2 : decode cX7_toLowestTerms 2 = .ok (.getfield 18, 3) := by decide +kernel
theorem dX7_toLowestTerms_5 : decode cX7_toLowestTerms 5 = .ok (.aload_n 0, 1) := by decide +kernel
theorem dX7_toLowestTerms_6 : decode cX7_toLowestTerms 6 = .ok (.getfield 25, 3) := by decide +kernel
theorem dX7_toLowestTerms_9 : decode cX7_toLowestTerms 9 = .ok (.invokevirtual 80, 3) := by decide +kernel
theorem dX7_toLowestTerms_12 : decode cX7_toLowestTerms 12 = .ok (.lstore_n 1, 1) := by decide +kernel
theorem dX7_toLowestTerms_13 : decode cX7_toLowestTerms 13 = .ok (.lload_n 1, 1) := by decide +kernel
theorem dX7_toLowestTerms_14 : decode cX7_toLowestTerms 14 = .ok (.lconst 0, 1) := by decide +kernel
theorem dX7_toLowestTerms_15 : decode cX7_toLowestTerms 15 = .ok (.lcmp, 1) := by decide +kernel
theorem dX7_toLowestTerms_16 : decode cX7_toLowestTerms 16 = .ok (.ifCond .le 22, 3) := by decide +kernel
theorem dX7_toLowestTerms_19 : decode cX7_toLowestTerms 19 = .ok (.aload_n 0, 1) := by decide +kernel
theorem dX7_toLowestTerms_20 : decode cX7_toLowestTerms 20 = .ok (.aload_n 0, 1) := by decide +kernel
theorem dX7_toLowestTerms_21 : decode cX7_toLowestTerms 21 = .ok (.getfield 18, 3) := by decide +kernel
theorem dX7_toLowestTerms_24 : decode cX7_toLowestTerms 24 = .ok (.lload_n 1, 1) := by decide +kernel
theorem dX7_toLowestTerms_25 : decode cX7_toLowestTerms 25 = .ok (.invokevirtual 84, 3) := by decide +kernel
theorem dX7_toLowestTerms_28 : decode cX7_toLowestTerms 28 = .ok (.aload_n 0, 1) := by decide +kernel
theorem dX7_toLowestTerms_29 : decode cX7_toLowestTerms 29 = .ok (.aload_n 0, 1) := by decide +kernel
theorem dX7_toLowestTerms_30 : decode cX7_toLowestTerms 30 = .ok (.getfield 25, 3) := by decide +kernel
theorem dX7_toLowestTerms_33 : decode cX7_toLowestTerms 33 = .ok (.lload_n 1, 1) := by decide +kernel
theorem dX7_toLowestTerms_34 : decode cX7_toLowestTerms 34 = .ok (.ldiv, 1) := by decide +kernel
theorem dX7_toLowestTerms_35 : decode cX7_toLowestTerms 35 = .ok (.putfield 25, 3) := by decide +kernel
theorem dX7_toLowestTerms_38 : decode cX7_toLowestTerms 38 = .ok (.return_, 1) := by decide +kernel
theorem dX7_divisorOf_0 : decode cX7_divisorOf 0 = .ok (.lload_n 2, 1) := by decide +kernel
theorem dX7_divisorOf_1 : decode cX7_divisorOf 1 = .ok (.lstore 4, 2) := by decide +kernel
theorem dX7_divisorOf_3 : decode cX7_divisorOf 3 = .ok (.iconst 0, 1) := by decide +kernel
theorem dX7_divisorOf_4 : decode cX7_divisorOf 4 = .ok (.istore 6, 2) := by decide +kernel
theorem dX7_divisorOf_6 : decode cX7_divisorOf 6 = .ok (.iload 6, 2) := by decide +kernel
theorem dX7_divisorOf_8 : decode cX7_divisorOf 8 = .ok (.aload_n 0, 1) := by decide +kernel
theorem dX7_divisorOf_9 : decode cX7_divisorOf 9 = .ok (.getfield 29, 3) := by decide +kernel
theorem dX7_divisorOf_12 : decode cX7_divisorOf 12 = .ok (.iconst 4, 1) := by decide +kernel
theorem dX7_divisorOf_13 : decode cX7_divisorOf 13 = .ok (.imul, 1) := by decide +kernel
theorem dX7_divisorOf_14 : decode cX7_divisorOf 14 = .ok (.if_icmp .ge 27, 3) := by decide +kernel
theorem dX7_divisorOf_17 : decode cX7_divisorOf 17 = .ok (.lload 4, 2) := by decide +kernel
theorem dX7_divisorOf_19 : decode cX7_divisorOf 19 = .ok (.lconst 1, 1) := by decide +kernel
theorem dX7_divisorOf_20 : decode cX7_divisorOf 20 = .ok (.lcmp, 1) := by decide +kernel
theorem dX7_divisorOf_21 : decode cX7_divisorOf 21 = .ok (.ifCond .le 20, 3) := by decide +kernel
theorem dX7_divisorOf_24 : decode cX7_divisorOf 24 = .ok (.aload_n 1, 1) := by decide +kernel
theorem dX7_divisorOf_25 : decode cX7_divisorOf 25 = .ok (.iload 6, 2) := by decide +kernel
theorem dX7_divisorOf_27 : decode cX7_divisorOf 27 = .ok (.laload, 1) := by decide +kernel
theorem dX7_divisorOf_28 : decode cX7_divisorOf 28 = .ok (.lload 4, 2) := by decide +kernel
theorem dX7_divisorOf_30 : decode cX7_divisorOf 30 = .ok (.invokestatic 88, 3) := by decide +kernel
theorem dX7_divisorOf_33 : decode cX7_divisorOf 33 = .ok (.lstore 4, 2) := by decide +kernel
theorem dX7_divisorOf_35 : decode cX7_divisorOf 35 = .ok (.iinc 6 1, 3) := by decide +kernel
theorem dX7_divisorOf_38 : decode cX7_divisorOf 38 = .ok (.goto (-32), 3) := by decide +kernel
theorem dX7_divisorOf_41 : decode cX7_divisorOf 41 = .ok (.lload 4, 2) := by decide +kernel
theorem dX7_divisorOf_43 : decode cX7_divisorOf 43 = .ok (.lreturn, 1) := by decide +kernel
theorem dX7_divideBy_0 : decode cX7_divideBy 0 = .ok (.iconst 0, 1) := by decide +kernel
theorem dX7_divideBy_1 : decode cX7_divideBy 1 = .ok (.istore 4, 2) := by decide +kernel
theorem dX7_divideBy_3 : decode cX7_divideBy 3 = .ok (.iload 4, 2) := by decide +kernel
theorem dX7_divideBy_5 : decode cX7_divideBy 5 = .ok (.aload_n 0, 1) := by decide +kernel
theorem dX7_divideBy_6 : decode cX7_divideBy 6 = .ok (.getfield 29, 3) := by decide +kernel
theorem dX7_divideBy_9 : decode cX7_divideBy 9 = .ok (.iconst 4, 1) := by decide +kernel
theorem dX7_divideBy_10 : decode cX7_divideBy 10 = .ok (.imul, 1) := by decide +kernel
theorem dX7_divideBy_11 : decode cX7_divideBy 11 = .ok (.if_icmp .ge 23, 3) := by decide +kernel
theorem dX7_divideBy_14 : decode cX7_divideBy 14 = .ok (.lload_n 2, 1) := by decide +kernel
theorem dX7_divideBy_15 : decode cX7_divideBy 15 = .ok (.lconst 1, 1) := by decide +kernel
theorem dX7_divideBy_16 : decode cX7_divideBy 16 = .ok (.lcmp, 1) := by decide +kernel
theorem dX7_divideBy_17 : decode cX7_divideBy 17 = .ok (.ifCond .le 17, 3) := by decide +kernel
theorem dX7_divideBy_20 : decode cX7_divideBy 20 = .ok (.aload_n 1, 1) := by decide +kernel
theorem dX7_divideBy_21 : decode cX7_divideBy 21 = .ok (.iload 4, 2) := by decide +kernel
theorem dX7_divideBy_23 : decode cX7_divideBy 23 = .ok (.dup2, 1) := by decide +kernel
theorem dX7_divideBy_24 : decode cX7_divideBy 24 = .ok (.laload, 1) := by decide +kernel
theorem dX7_divideBy_25 : decode cX7_divideBy 25 = .ok (.lload_n 2, 1) := by decide +kernel
theorem dX7_divideBy_26 : decode cX7_divideBy 26 = .ok (.ldiv, 1) := by decide +kernel
theorem dX7_divideBy_27 : decode cX7_divideBy 27 = .ok (.lastore, 1) := by decide +kernel
theorem dX7_divideBy_28 : decode cX7_divideBy 28 = .ok (.iinc 4 1, 3) := by decide +kernel
theorem dX7_divideBy_31 : decode cX7_divideBy 31 = .ok (.goto (-28), 3) := by decide +kernel
theorem dX7_divideBy_34 : decode cX7_divideBy 34 = .ok (.return_, 1) := by decide +kernel
theorem dX7_copyFrom_0 : decode cX7_copyFrom 0 = .ok (.aload_n 1, 1) := by decide +kernel
theorem dX7_copyFrom_1 : decode cX7_copyFrom 1 = .ok (.getfield 9, 3) := by decide +kernel
theorem dX7_copyFrom_4 : decode cX7_copyFrom 4 = .ok (.iconst 0, 1) := by decide +kernel
theorem dX7_copyFrom_5 : decode cX7_copyFrom 5 = .ok (.aload_n 0, 1) := by decide +kernel
theorem dX7_copyFrom_6 : decode cX7_copyFrom 6 = .ok (.getfield 9, 3) := by decide +kernel
theorem dX7_copyFrom_9 : decode cX7_copyFrom 9 = .ok (.iconst 0, 1) := by decide +kernel
theorem dX7_copyFrom_10 : decode cX7_copyFrom 10 = .ok (.bipush 6, 2) := by decide +kernel
theorem dX7_copyFrom_12 : decode cX7_copyFrom 12 = .ok (.invokestatic 92, 3) := by decide +kernel
theorem dX7_copyFrom_15 : decode cX7_copyFrom 15 = .ok (.aload_n 1, 1) := by decide +kernel
theorem dX7_copyFrom_16 : decode cX7_copyFrom 16 = .ok (.getfield 15, 3) := by decide +kernel
theorem dX7_copyFrom_19 : decode cX7_copyFrom 19 = .ok (.iconst 0, 1) := by decide +kernel
theorem dX7_copyFrom_20 : decode cX7_copyFrom 20 = .ok (.aload_n 0, 1) := by decide +kernel
theorem dX7_copyFrom_21 : decode cX7_copyFrom 21 = .ok (.getfield 15, 3) := by decide +kernel
theorem dX7_copyFrom_24 : decode cX7_copyFrom 24 = .ok (.iconst 0, 1) := by decide +kernel
theorem dX7_copyFrom_25 : decode cX7_copyFrom 25 = .ok (.bipush 6, 2) := by decide +kernel
theorem dX7_copyFrom_27 : decode cX7_copyFrom 27 = .ok (.invokestatic 92, 3) := by decide +kernel
theorem dX7_copyFrom_30 : decode cX7_copyFrom 30 = .ok (.aload_n 1, 1) := by decide +kernel
theorem dX7_copyFrom_31 : decode cX7_copyFrom 31 = .ok (.getfield 18, 3) := by decide +kernel
theorem dX7_copyFrom_34 : decode cX7_copyFrom 34 = .ok (.iconst 0, 1) := by decide +kernel
theorem dX7_copyFrom_35 : decode cX7_copyFrom 35 = .ok (.aload_n 0, 1) := by decide +kernel
theorem dX7_copyFrom_36 : decode cX7_copyFrom 36 = .ok (.getfield 18, 3) := by decide +kernel
theorem dX7_copyFrom_39 : decode cX7_copyFrom 39 = .ok (.iconst 0, 1) := by decide +kernel
theorem dX7_copyFrom_40 : decode cX7_copyFrom 40 = .ok (.bipush 24, 2) := by decide +kernel
theorem dX7_copyFrom_42 : decode cX7_copyFrom 42 = .ok (.invokestatic 92, 3) := by decide +kernel
theorem dX7_copyFrom_45 : decode cX7_copyFrom 45 = .ok (.aload_n 0, 1) := by decide +kernel
theorem dX7_copyFrom_46 : decode cX7_copyFrom 46 = .ok (.aload_n 1, 1) := by decide +kernel
theorem dX7_copyFrom_47 : decode cX7_copyFrom 47 = .ok (.getfield 25, 3) := by decide +kernel
theorem dX7_copyFrom_50 : decode cX7_copyFrom 50 = .ok (.putfield 25, 3) := by decide +kernel
theorem dX7_copyFrom_53 : decode cX7_copyFrom 53 = .ok (.aload_n 0, 1) := by decide +kernel
theorem dX7_copyFrom_54 : decode cX7_copyFrom 54 = .ok (.aload_n 1, 1) := by decide +kernel
theorem dX7_copyFrom_55 : decode cX7_copyFrom 55 = .ok (.getfield 29, 3) := by decide +kernel
theorem dX7_copyFrom_58 : decode cX7_copyFrom 58 = .ok (.putfield 29, 3) := by decide +kernel
theorem dX7_copyFrom_61 : decode cX7_copyFrom 61 = .ok (.return_, 1) := by decide +kernel
theorem dX8_init_0 : decode cX8_init 0 = .ok (.aload_n 0, 1) := by decide +kernel
theorem dX8_init_1 : decode cX8_init 1 = .ok (.invokespecial 3, 3) := by decide +kernel
theorem dX8_init_4 : decode cX8_init 4 = .ok (.aload_n 0, 1) := by decide +kernel
theorem dX8_init_5 : decode cX8_init 5 = .ok (.sipush 400, 3) := by decide +kernel
theorem dX8_init_8 : decode cX8_init 8 = .ok (.newarray .int, 2) := by decide +kernel
theorem dX8_init_10 : decode cX8_init 10 = .ok (.putfield 9, 3) := by decide +kernel
theorem dX8_init_13 : decode cX8_init 13 = .ok (.aload_n 0, 1) := by decide +kernel
theorem dX8_init_14 : decode cX8_init 14 = .ok (.sipush 401, 3) := by decide +kernel
theorem dX8_init_17 : decode cX8_init 17 = .ok (.newarray .int, 2) := by decide +kernel
theorem dX8_init_19 : decode cX8_init 19 = .ok (.putfield 15, 3) := by decide +kernel
theorem dX8_init_22 : decode cX8_init 22 = .ok (.aload_n 0, 1) := by decide +kernel
theorem dX8_init_23 : decode cX8_init 23 = .ok (.sipush 401, 3) := by decide +kernel
theorem dX8_init_26 : decode cX8_init 26 = .ok (.newarray .int, 2) := by decide +kernel
theorem dX8_init_28 : decode cX8_init 28 = .ok (.putfield 18, 3) := by decide +kernel
theorem dX8_init_31 : decode cX8_init 31 = .ok (.aload_n 0, 1) := by decide +kernel
theorem dX8_init_32 : decode cX8_init 32 = .ok (.sipush 401, 3) := by decide +kernel
theorem dX8_init_35 : decode cX8_init 35 = .ok (.newarray .int, 2) := by decide +kernel
theorem dX8_init_37 : decode cX8_init 37 = .ok (.putfield 21, 3) := by decide +kernel
theorem dX8_init_40 : decode cX8_init 40 = .ok (.aload_n 0, 1) := by decide +kernel
theorem dX8_init_41 : decode cX8_init 41 = .ok (.sipush 401, 3) := by decide +kernel
theorem dX8_init_44 : decode cX8_init 44 = .ok (.newarray .int, 2) := by decide +kernel
theorem dX8_init_46 : decode cX8_init 46 = .ok (.putfield 24, 3) := by decide +kernel
theorem dX8_init_49 : decode cX8_init 49 = .ok (.return_, 1) := by decide +kernel
theorem dX8_append_0 : decode cX8_append 0 = .ok (.bipush 24, 2) := by decide +kernel
theorem dX8_append_2 : decode cX8_append 2 = .ok (.istore_n 2, 1) := by decide +kernel
theorem dX8_append_3 : decode cX8_append 3 = .ok (.iload_n 2, 1) := by decide +kernel
theorem dX8_append_4 : decode cX8_append 4 = .ok (.ifCond .lt 45, 3) := by decide +kernel
theorem dX8_append_7 : decode cX8_append 7 = .ok (.aload_n 0, 1) := by decide +kernel
theorem dX8_append_8 : decode cX8_append 8 = .ok (.getfield 27, 3) := by decide +kernel
theorem dX8_append_11 : decode cX8_append 11 = .ok (.sipush 400, 3) := by decide +kernel
theorem dX8_append_14 : decode cX8_append 14 = .ok (.if_icmp .ge 35, 3) := by decide +kernel
theorem dX8_append_17 : decode cX8_append 17 = .ok (.aload_n 0, 1) := by decide +kernel
theorem dX8_append_18 : decode cX8_append 18 = .ok (.getfield 9, 3) := by decide +kernel
theorem dX8_append_21 : decode cX8_append 21 = .ok (.aload_n 0, 1) := by decide +kernel
theorem dX8_append_22 : decode cX8_append 22 = .ok (.getfield 27, 3) := by decide +kernel
theorem dX8_append_25 : decode cX8_append 25 = .ok (.iload_n 1, 1) := by decide +kernel
theorem dX8_append_26 : decode cX8_append 26 = .ok (.iload_n 2, 1) := by decide +kernel
theorem dX8_append_27 : decode cX8_append 27 = .ok (.ishr, 1) := by decide +kernel
theorem dX8_append_28 : decode cX8_append 28 = .ok (.sipush 255, 3) := by decide +kernel
theorem dX8_append_31 : decode cX8_append 31 = .ok (.iand, 1) := by decide +kernel
theorem dX8_append_32 : decode cX8_append 32 = .ok (.iastore, 1) := by decide +kernel
theorem dX8_append_33 : decode cX8_append 33 = .ok (.aload_n 0, 1) := by decide +kernel
theorem dX8_append_34 : decode cX8_append 34 = .ok (.dup, 1) := by decide +kernel
theorem dX8_append_35 : decode cX8_append 35 = .ok (.getfield 27, 3) := by decide +kernel
theorem dX8_append_38 : decode cX8_append 38 = .ok (.iconst 1, 1) := by decide +kernel
theorem dX8_append_39 : decode cX8_append 39 = .ok (.iadd, 1) := by decide +kernel
theorem dX8_append_40 : decode cX8_append 40 = .ok (.putfield 27, 3) := by decide +kernel
theorem dX8_append_43 : decode cX8_append 43 = .ok (.iinc 2 (-8), 3) := by decide +kernel
theorem dX8_append_46 : decode cX8_append 46 = .ok (.goto (-43), 3) := by decide +kernel
theorem dX8_append_49 : decode cX8_append 49 = .ok (.return_, 1) := by decide +kernel
theorem dX8_cut_0 : decode cX8_cut 0 = .ok (.aload_n 0, 1) := by decide +kernel
theorem dX8_cut_1 : decode cX8_cut 1 = .ok (.iconst 0, 1) := by decide +kernel
theorem dX8_cut_2 : decode cX8_cut 2 = .ok (.putfield 31, 3) := by decide +kernel
theorem dX8_cut_5 : decode cX8_cut 5 = .ok (.aload_n 0, 1) := by decide +kernel
theorem dX8_cut_6 : decode cX8_cut 6 = .ok (.iconst 0, 1) := by decide +kernel
theorem dX8_cut_7 : decode cX8_cut 7 = .ok (.putfield 34, 3) := by decide +kernel
theorem dX8_cut_10 : decode cX8_cut 10 = .ok (.iconst 0, 1) := by decide +kernel
theorem dX8_cut_11 : decode cX8_cut 11 = .ok (.istore_n 1, 1) := by decide +kernel
theorem dX8_cut_12 : decode cX8_cut 12 = .ok (.iload_n 1, 1) := by decide +kernel
theorem dX8_cut_13 : decode cX8_cut 13 = .ok (.aload_n 0, 1) := by decide +kernel
theorem dX8_cut_14 : decode cX8_cut 14 = .ok (.getfield 27, 3) := by decide +kernel
theorem dX8_cut_17 : decode cX8_cut 17 = .ok (.if_icmp .ge 60, 3) := by decide +kernel
theorem dX8_cut_20 : decode cX8_cut 20 = .ok (.aload_n 0, 1) := by decide +kernel
theorem dX8_cut_21 : decode cX8_cut 21 = .ok (.iload_n 1, 1) := by decide +kernel
theorem dX8_cut_22 : decode cX8_cut 22 = .ok (.invokevirtual 37, 3) := by decide +kernel
theorem dX8_cut_25 : decode cX8_cut 25 = .ok (.ifCond .eq 17, 3) := by decide +kernel
theorem dX8_cut_28 : decode cX8_cut 28 = .ok (.aload_n 0, 1) := by decide +kernel
theorem dX8_cut_29 : decode cX8_cut 29 = .ok (.iload_n 1, 1) := by decide +kernel
theorem dX8_cut_30 : decode cX8_cut 30 = .ok (.aload_n 0, 1) := by decide +kernel
theorem dX8_cut_31 : decode cX8_cut 31 = .ok (.getfield 9, 3) := by decide +kernel
theorem dX8_cut_34 : decode cX8_cut 34 = .ok (.iload_n 1, 1) := by decide +kernel
theorem dX8_cut_35 : decode cX8_cut 35 = .ok (.iaload, 1) := by decide +kernel
theorem dX8_cut_36 : decode cX8_cut 36 = .ok (.invokestatic 41, 3) := by decide +kernel
theorem dX8_cut_39 : decode cX8_cut 39 = .ok (.invokevirtual 45, 3) := by decide +kernel
theorem dX8_cut_42 : decode cX8_cut 42 = .ok (.aload_n 0, 1) := by decide +kernel
theorem dX8_cut_43 : decode cX8_cut 43 = .ok (.getfield 9, 3) := by decide +kernel
theorem dX8_cut_46 : decode cX8_cut 46 = .ok (.iload_n 1, 1) := by decide +kernel
theorem dX8_cut_47 : decode cX8_cut 47 = .ok (.iaload, 1) := by decide +kernel
theorem dX8_cut_48 : decode cX8_cut 48 = .ok (.bipush 32, 2) := by decide +kernel
theorem dX8_cut_50 : decode cX8_cut 50 = .ok (.if_icmp .eq 21, 3) := by decide +kernel
theorem dX8_cut_53 : decode cX8_cut 53 = .ok (.aload_n 0, 1) := by decide +kernel
theorem dX8_cut_54 : decode cX8_cut 54 = .ok (.getfield 31, 3) := by decide +kernel
theorem dX8_cut_57 : decode cX8_cut 57 = .ok (.ifCond .le 14, 3) := by decide +kernel
theorem dX8_cut_60 : decode cX8_cut 60 = .ok (.aload_n 0, 1) := by decide +kernel
theorem dX8_cut_61 : decode cX8_cut 61 = .ok (.aload_n 0, 1) := by decide +kernel
theorem dX8_cut_62 : decode cX8_cut 62 = .ok (.getfield 31, 3) := by decide +kernel
theorem dX8_cut_65 : decode cX8_cut 65 = .ok (.iconst 1, 1) := by decide +kernel
theorem dX8_cut_66 : decode cX8_cut 66 = .ok (.isub, 1) := by decide +kernel
theorem dX8_cut_67 : decode cX8_cut 67 = .ok (.iload_n 1, 1) := by decide +kernel
theorem dX8_cut_68 : decode cX8_cut 68 = .ok (.invokevirtual 49, 3) := by decide +kernel
theorem dX8_cut_71 : decode cX8_cut 71 = .ok (.iinc 1 1, 3) := by decide +kernel
theorem dX8_cut_74 : decode cX8_cut 74 = .ok (.goto (-62), 3) := by decide +kernel
theorem dX8_cut_77 : decode cX8_cut 77 = .ok (.aload_n 0, 1) := by decide +kernel
theorem dX8_cut_78 : decode cX8_cut 78 = .ok (.aload_n 0, 1) := by decide +kernel
theorem dX8_cut_79 : decode cX8_cut 79 = .ok (.getfield 27, 3) := by decide +kernel
theorem dX8_cut_82 : decode cX8_cut 82 = .ok (.iconst 0, 1) := by decide +kernel
theorem dX8_cut_83 : decode cX8_cut 83 = .ok (.invokevirtual 45, 3) := by decide +kernel
theorem dX8_cut_86 : decode cX8_cut 86 = .ok (.return_, 1) := by decide +kernel
theorem dX8_isFirstOfToken_0 : decode cX8_isFirstOfToken 0 = .ok (.aload_n 0, 1) := by decide +kernel
theorem dX8_isFirstOfToken_1 : decode cX8_isFirstOfToken 1 = .ok (.getfield 9, 3) := by decide +kernel
theorem dX8_isFirstOfToken_4 : decode cX8_isFirstOfToken 4 = .ok (.iload_n 1, 1) := by decide +kernel
theorem dX8_isFirstOfToken_5 : decode cX8_isFirstOfToken 5 = .ok (.iaload, 1) := by decide +kernel
theorem dX8_isFirstOfToken_6 : decode cX8_isFirstOfToken 6 = .ok (.invokestatic 41, 3) := by decide +kernel
theorem dX8_isFirstOfToken_9 : decode cX8_isFirstOfToken 9 = .ok (.istore_n 2, 1) := by decide +kernel
theorem dX8_isFirstOfToken_10 : decode cX8_isFirstOfToken 10 = .ok (.aload_n 0, 1) := by decide +kernel
theorem dX8_isFirstOfToken_11 : decode cX8_isFirstOfToken 11 = .ok (.getfield 9, 3) := by decide +kernel
theorem dX8_isFirstOfToken_14 : decode cX8_isFirstOfToken 14 = .ok (.iload_n 1, 1) := by decide +kernel
theorem dX8_isFirstOfToken_15 : decode cX8_isFirstOfToken 15 = .ok (.iaload, 1) := by decide +kernel
theorem dX8_isFirstOfToken_16 : decode cX8_isFirstOfToken 16 = .ok (.bipush 32, 2) := by decide +kernel
theorem dX8_isFirstOfToken_18 : decode cX8_isFirstOfToken 18 = .ok (.if_icmp .ne 5, 3) := by decide +kernel
theorem dX8_isFirstOfToken_21 : decode cX8_isFirstOfToken 21 = .ok (.iconst 0, 1) := by decide +kernel
theorem dX8_isFirstOfToken_22 : decode cX8_isFirstOfToken 22 = .ok (.ireturn, 1) := by decide +kernel
theorem dX8_isFirstOfToken_23 : decode cX8_isFirstOfToken 23 = .ok (.iload_n 2, 1) := by decide +kernel
theorem dX8_isFirstOfToken_24 : decode cX8_isFirstOfToken 24 = .ok (.iconst 3, 1) := by decide +kernel
theorem dX8_isFirstOfToken_25 : decode cX8_isFirstOfToken 25 = .ok (.if_icmp .eq 22, 3) := by decide +kernel
theorem dX8_isFirstOfToken_28 : decode cX8_isFirstOfToken 28 = .ok (.iload_n 1, 1) := by decide +kernel
theorem dX8_isFirstOfToken_29 : decode cX8_isFirstOfToken 29 = .ok (.ifCond .eq 18, 3) := by decide +kernel
theorem dX8_isFirstOfToken_32 : decode cX8_isFirstOfToken 32 = .ok (.aload_n 0, 1) := by decide +kernel
theorem dX8_isFirstOfToken_33 : decode cX8_isFirstOfToken 33 = .ok (.getfield 9, 3) := by decide +kernel
theorem dX8_isFirstOfToken_36 : decode cX8_isFirstOfToken 36 = .ok (.iload_n 1, 1) := by decide +kernel
theorem dX8_isFirstOfToken_37 : decode cX8_isFirstOfToken 37 = .ok (.iconst 1, 1) := by decide +kernel
theorem dX8_isFirstOfToken_38 : decode cX8_isFirstOfToken 38 = .ok (.isub, 1) := by decide +kernel
theorem dX8_isFirstOfToken_39 : decode cX8_isFirstOfToken 39 = .ok (.iaload, 1) := by decide +kernel
theorem dX8_isFirstOfToken_40 : decode cX8_isFirstOfToken 40 = .ok (.invokestatic 41, 3) := by decide +kernel
theorem dX8_isFirstOfToken_43 : decode cX8_isFirstOfToken 43 = .ok (.iload_n 2, 1) := by decide +kernel
theorem dX8_isFirstOfToken_44 : decode cX8_isFirstOfToken 44 = .ok (.if_icmp .eq 7, 3) := by decide +kernel
theorem dX8_isFirstOfToken_47 : decode cX8_isFirstOfToken 47 = .ok (.iconst 1, 1) := by decide +kernel
theorem dX8_isFirstOfToken_48 : decode cX8_isFirstOfToken 48 = .ok (.goto 4, 3) := by decide +kernel
theorem dX8_isFirstOfToken_51 : decode cX8_isFirstOfToken 51 = .ok (.iconst 0, 1) := by decide +kernel
theorem dX8_isFirstOfToken_52 : decode cX8_isFirstOfToken 52 = .ok (.ireturn, 1) := by decide +kernel
theorem dX8_beginToken_0 : decode cX8_beginToken 0 = .ok (.aload_n 0, 1) := by decide +kernel
theorem dX8_beginToken_1 : decode cX8_beginToken 1 = .ok (.getfield 15, 3) := by decide +kernel
theorem dX8_beginToken_4 : decode cX8_beginToken 4 = .ok (.aload_n 0, 1) := by decide +kernel
theorem dX8_beginToken_5 : decode cX8_beginToken 5 = .ok (.getfield 31, 3) := by decide +kernel
theorem dX8_beginToken_8 : decode cX8_beginToken 8 = .ok (.iload_n 2, 1) := by decide +kernel
theorem dX8_beginToken_9 : decode cX8_beginToken 9 = .ok (.iastore, 1) := by decide +kernel
theorem dX8_beginToken_10 : decode cX8_beginToken 10 = .ok (.aload_n 0, 1) := by decide +kernel
theorem dX8_beginToken_11 : decode cX8_beginToken 11 = .ok (.getfield 18, 3) := by decide +kernel
theorem dX8_beginToken_14 : decode cX8_beginToken 14 = .ok (.aload_n 0, 1) := by decide +kernel
theorem dX8_beginToken_15 : decode cX8_beginToken 15 = .ok (.getfield 31, 3) := by decide +kernel
theorem dX8_beginToken_18 : decode cX8_beginToken 18 = .ok (.iload_n 1, 1) := by decide +kernel
theorem dX8_beginToken_19 : decode cX8_beginToken 19 = .ok (.iastore, 1) := by decide +kernel
theorem dX8_beginToken_20 : decode cX8_beginToken 20 = .ok (.aload_n 0, 1) := by decide +kernel
theorem dX8_beginToken_21 : decode cX8_beginToken 21 = .ok (.getfield 21, 3) := by decide +kernel
theorem dX8_beginToken_24 : decode cX8_beginToken 24 = .ok (.aload_n 0, 1) := by decide +kernel
theorem dX8_beginToken_25 : decode cX8_beginToken 25 = .ok (.getfield 31, 3) := by decide +kernel
theorem dX8_beginToken_28 : decode cX8_beginToken 28 = .ok (.iload_n 1, 1) := by decide +kernel
theorem dX8_beginToken_29 : decode cX8_beginToken 29 = .ok (.iastore, 1) := by decide +kernel
theorem dX8_beginToken_30 : decode cX8_beginToken 30 = .ok (.aload_n 0, 1) := by decide +kernel
theorem dX8_beginToken_31 : decode cX8_beginToken 31 = .ok (.getfield 24, 3) := by decide +kernel
theorem dX8_beginToken_34 : decode cX8_beginToken 34 = .ok (.aload_n 0, 1) := by decide +kernel
theorem dX8_beginToken_35 : decode cX8_beginToken 35 = .ok (.getfield 31, 3) := by decide +kernel
theorem dX8_beginToken_38 : decode cX8_beginToken 38 = .ok (.iconst 0, 1) := by decide +kernel
theorem dX8_beginToken_39 : decode cX8_beginToken 39 = .ok (.iastore, 1) := by decide +kernel
theorem dX8_beginToken_40 : decode cX8_beginToken 40 = .ok (.aload_n 0, 1) := by decide +kernel
theorem dX8_beginToken_41 : decode cX8_beginToken 41 = .ok (.dup, 1) := by decide +kernel
theorem dX8_beginToken_42 : decode cX8_beginToken 42 = .ok (.getfield 31, 3) := by decide +kernel
theorem dX8_beginToken_45 : decode cX8_beginToken 45 = .ok (.iconst 1, 1) := by decide +kernel
theorem dX8_beginToken_46 : decode cX8_beginToken 46 = .ok (.iadd, 1) := by decide +kernel
theorem dX8_beginToken_47 : decode cX8_beginToken 47 = .ok (.putfield 31, 3) := by decide +kernel
theorem dX8_beginToken_50 : decode cX8_beginToken 50 = .ok (.return_, 1) := by decide +kernel
theorem dX8_growToken_0 : decode cX8_growToken 0 = .ok (.aload_n 0, 1) := by decide +kernel
theorem dX8_growToken_1 : decode cX8_growToken 1 = .ok (.getfield 21, 3) := by decide +kernel
theorem dX8_growToken_4 : decode cX8_growToken 4 = .ok (.iload_n 1, 1) := by decide +kernel
theorem dX8_growToken_5 : decode cX8_growToken 5 = .ok (.iload_n 2, 1) := by decide +kernel
theorem dX8_growToken_6 : decode cX8_growToken 6 = .ok (.iconst 1, 1) := by decide +kernel
theorem dX8_growToken_7 : decode cX8_growToken 7 = .ok (.iadd, 1) := by decide +kernel
theorem dX8_growToken_8 : decode cX8_growToken 8 = .ok (.iastore, 1) := by decide +kernel
theorem dX8_growToken_9 : decode cX8_growToken 9 = .ok (.aload_n 0, 1) := by decide +kernel
theorem dX8_growToken_10 : decode cX8_growToken 10 = .ok (.getfield 15, 3) := by decide +kernel
theorem dX8_growToken_13 : decode cX8_growToken 13 = .ok (.iload_n 1, 1) := by decide +kernel
theorem dX8_growToken_14 : decode cX8_growToken 14 = .ok (.iaload, 1) := by decide +kernel
theorem dX8_growToken_15 : decode cX8_growToken 15 = .ok (.iconst 2, 1) := by decide +kernel
theorem dX8_growToken_16 : decode cX8_growToken 16 = .ok (.if_icmp .ne 34, 3) := by decide +kernel
theorem dX8_growToken_19 : decode cX8_growToken 19 = .ok (.aload_n 0, 1) := by decide +kernel
theorem dX8_growToken_20 : decode cX8_growToken 20 = .ok (.getfield 24, 3) := by decide +kernel
theorem dX8_growToken_23 : decode cX8_growToken 23 = .ok (.iload_n 1, 1) := by decide +kernel
theorem dX8_growToken_24 : decode cX8_growToken 24 = .ok (.aload_n 0, 1) := by decide +kernel
theorem dX8_growToken_25 : decode cX8_growToken 25 = .ok (.getfield 24, 3) := by decide +kernel
theorem dX8_growToken_28 : decode cX8_growToken 28 = .ok (.iload_n 1, 1) := by decide +kernel
theorem dX8_growToken_29 : decode cX8_growToken 29 = .ok (.iaload, 1) := by decide +kernel
theorem dX8_growToken_30 : decode cX8_growToken 30 = .ok (.bipush 10, 2) := by decide +kernel
theorem dX8_growToken_32 : decode cX8_growToken 32 = .ok (.imul, 1) := by decide +kernel
theorem dX8_growToken_33 : decode cX8_growToken 33 = .ok (.aload_n 0, 1) := by decide +kernel
theorem dX8_growToken_34 : decode cX8_growToken 34 = .ok (.getfield 9, 3) := by decide +kernel
theorem dX8_growToken_37 : decode cX8_growToken 37 = .ok (.iload_n 2, 1) := by decide +kernel
theorem dX8_growToken_38 : decode cX8_growToken 38 = .ok (.iaload, 1) := by decide +kernel
theorem dX8_growToken_39 : decode cX8_growToken 39 = .ok (.iadd, 1) := by decide +kernel
theorem dX8_growToken_40 : decode cX8_growToken 40 = .ok (.bipush 48, 2) := by decide +kernel
theorem dX8_growToken_42 : decode cX8_growToken 42 = .ok (.isub, 1) := by decide +kernel
theorem dX8_growToken_43 : decode cX8_growToken 43 = .ok (.sipush 1001, 3) := by decide +kernel
theorem dX8_growToken_46 : decode cX8_growToken 46 = .ok (.invokestatic 52, 3) := by decide +kernel
theorem dX8_growToken_49 : decode cX8_growToken 49 = .ok (.iastore, 1) := by decide +kernel
theorem dX8_growToken_50 : decode cX8_growToken 50 = .ok (.return_, 1) := by decide +kernel
theorem dX8_kindOf_0 : decode cX8_kindOf 0 = .ok (.iload_n 0, 1) := by decide +kernel
theorem dX8_kindOf_1 : decode cX8_kindOf 1 = .ok (.bipush 97, 2) := by decide +kernel
theorem dX8_kindOf_3 : decode cX8_kindOf 3 = .ok (.if_icmp .lt 11, 3) := by decide +kernel
theorem dX8_kindOf_6 : decode cX8_kindOf 6 = .ok (.iload_n 0, 1) := by decide +kernel
theorem dX8_kindOf_7 : decode cX8_kindOf 7 = .ok (.bipush 122, 2) := by decide +kernel
theorem dX8_kindOf_9 : decode cX8_kindOf 9 = .ok (.if_icmp .gt 5, 3) := by decide +kernel
theorem dX8_kindOf_12 : decode cX8_kindOf 12 = .ok (.iconst 1, 1) := by decide +kernel
theorem dX8_kindOf_13 : decode cX8_kindOf 13 = .ok (.ireturn, 1) := by decide +kernel
theorem dX8_kindOf_14 : decode cX8_kindOf 14 = .ok (.iload_n 0, 1) := by decide +kernel
theorem dX8_kindOf_15 : decode cX8_kindOf 15 = .ok (.bipush 48, 2) := by decide +kernel
theorem dX8_kindOf_17 : decode cX8_kindOf 17 = .ok (.if_icmp .lt 13, 3) := by decide +kernel
theorem dX8_kindOf_20 : decode cX8_kindOf 20 = .ok (.iload_n 0, 1) := by decide +kernel
theorem dX8_kindOf_21 : decode cX8_kindOf 21 = .ok (.bipush 57, 2) := by decide +kernel
theorem dX8_kindOf_23 : decode cX8_kindOf 23 = .ok (.if_icmp .gt 7, 3) := by decide +kernel
theorem dX8_kindOf_26 : decode cX8_kindOf 26 = .ok (.iconst 2, 1) := by decide +kernel
theorem dX8_kindOf_27 : decode cX8_kindOf 27 = .ok (.goto 4, 3) := by decide +kernel
theorem dX8_kindOf_30 : decode cX8_kindOf 30 = .ok (.iconst 3, 1) := by decide +kernel
theorem dX8_kindOf_31 : decode cX8_kindOf 31 = .ok (.ireturn, 1) := by decide +kernel
theorem dX8_place_0 : decode cX8_place 0 = .ok (.aload_n 0, 1) := by decide +kernel
theorem dX8_place_1 : decode cX8_place 1 = .ok (.getfield 18, 3) := by decide +kernel
theorem dX8_place_4 : decode cX8_place 4 = .ok (.aload_n 0, 1) := by decide +kernel
theorem dX8_place_5 : decode cX8_place 5 = .ok (.getfield 34, 3) := by decide +kernel
theorem dX8_place_8 : decode cX8_place 8 = .ok (.iaload, 1) := by decide +kernel
theorem dX8_place_9 : decode cX8_place 9 = .ok (.ireturn, 1) := by decide +kernel
theorem dX8_isEnd_0 : decode cX8_isEnd 0 = .ok (.aload_n 0, 1) := by decide +kernel
theorem dX8_isEnd_1 : decode cX8_isEnd 1 = .ok (.getfield 15, 3) := by decide +kernel
theorem dX8_isEnd_4 : decode cX8_isEnd 4 = .ok (.aload_n 0, 1) := by decide +kernel
theorem dX8_isEnd_5 : decode cX8_isEnd 5 = .ok (.getfield 34, 3) := by decide +kernel
theorem dX8_isEnd_8 : decode cX8_isEnd 8 = .ok (.iaload, 1) := by decide +kernel
theorem dX8_isEnd_9 : decode cX8_isEnd 9 = .ok (.ifCond .ne 7, 3) := by decide +kernel
theorem dX8_isEnd_12 : decode cX8_isEnd 12 = .ok (.iconst 1, 1) := by decide +kernel
theorem dX8_isEnd_13 : decode cX8_isEnd 13 = .ok (.goto 4, 3) := by decide +kernel
theorem dX8_isEnd_16 : decode cX8_isEnd 16 = .ok (.iconst 0, 1) := by decide +kernel
theorem dX8_isEnd_17 : decode cX8_isEnd 17 = .ok (.ireturn, 1) := by decide +kernel
theorem dX8_isSign_0 : decode cX8_isSign 0 = .ok (.aload_n 0, 1) := by decide +kernel
theorem dX8_isSign_1 : decode cX8_isSign 1 = .ok (.getfield 15, 3) := by decide +kernel
theorem dX8_isSign_4 : decode cX8_isSign 4 = .ok (.aload_n 0, 1) := by decide +kernel
theorem dX8_isSign_5 : decode cX8_isSign 5 = .ok (.getfield 34, 3) := by decide +kernel
theorem dX8_isSign_8 : decode cX8_isSign 8 = .ok (.iaload, 1) := by decide +kernel
theorem dX8_isSign_9 : decode cX8_isSign 9 = .ok (.iconst 3, 1) := by decide +kernel
theorem dX8_isSign_10 : decode cX8_isSign 10 = .ok (.if_icmp .ne 25, 3) := by decide +kernel
theorem dX8_isSign_13 : decode cX8_isSign 13 = .ok (.aload_n 0, 1) := by decide +kernel
theorem dX8_isSign_14 : decode cX8_isSign 14 = .ok (.getfield 9, 3) := by decide +kernel
theorem dX8_isSign_17 : decode cX8_isSign 17 = .ok (.aload_n 0, 1) := by decide +kernel
theorem dX8_isSign_18 : decode cX8_isSign 18 = .ok (.getfield 18, 3) := by decide +kernel
theorem dX8_isSign_21 : decode cX8_isSign 21 = .ok (.aload_n 0, 1) := by decide +kernel
theorem dX8_isSign_22 : decode cX8_isSign 22 = .ok (.getfield 34, 3) := by decide +kernel
theorem dX8_isSign_25 : decode cX8_isSign 25 = .ok (.iaload, 1) := by decide +kernel
theorem dX8_isSign_26 : decode cX8_isSign 26 = .ok (.iaload, 1) := by decide +kernel
theorem dX8_isSign_27 : decode cX8_isSign 27 = .ok (.iload_n 1, 1) := by decide +kernel
theorem dX8_isSign_28 : decode cX8_isSign 28 = .ok (.if_icmp .ne 7, 3) := by decide +kernel
theorem dX8_isSign_31 : decode cX8_isSign 31 = .ok (.iconst 1, 1) := by decide +kernel
theorem dX8_isSign_32 : decode cX8_isSign 32 = .ok (.goto 4, 3) := by decide +kernel
theorem dX8_isSign_35 : decode cX8_isSign 35 = .ok (.iconst 0, 1) := by decide +kernel
theorem dX8_isSign_36 : decode cX8_isSign 36 = .ok (.ireturn, 1) := by decide +kernel
theorem dX8_takeSign_0 : decode cX8_takeSign 0 = .ok (.aload_n 0, 1) := by decide +kernel
theorem dX8_takeSign_1 : decode cX8_takeSign 1 = .ok (.getfield 15, 3) := by decide +kernel
theorem dX8_takeSign_4 : decode cX8_takeSign 4 = .ok (.aload_n 0, 1) := by decide +kernel
theorem dX8_takeSign_5 : decode cX8_takeSign 5 = .ok (.getfield 34, 3) := by decide +kernel
theorem dX8_takeSign_8 : decode cX8_takeSign 8 = .ok (.iaload, 1) := by decide +kernel
theorem dX8_takeSign_9 : decode cX8_takeSign 9 = .ok (.iconst 3, 1) := by decide +kernel
theorem dX8_takeSign_10 : decode cX8_takeSign 10 = .ok (.if_icmp .ne 21, 3) := by decide +kernel
theorem dX8_takeSign_13 : decode cX8_takeSign 13 = .ok (.aload_n 0, 1) := by decide +kernel
theorem dX8_takeSign_14 : decode cX8_takeSign 14 = .ok (.getfield 9, 3) := by decide +kernel
theorem dX8_takeSign_17 : decode cX8_takeSign 17 = .ok (.aload_n 0, 1) := by decide +kernel
theorem dX8_takeSign_18 : decode cX8_takeSign 18 = .ok (.getfield 18, 3) := by decide +kernel
theorem dX8_takeSign_21 : decode cX8_takeSign 21 = .ok (.aload_n 0, 1) := by decide +kernel
theorem dX8_takeSign_22 : decode cX8_takeSign 22 = .ok (.getfield 34, 3) := by decide +kernel
theorem dX8_takeSign_25 : decode cX8_takeSign 25 = .ok (.iaload, 1) := by decide +kernel
theorem dX8_takeSign_26 : decode cX8_takeSign 26 = .ok (.iaload, 1) := by decide +kernel
theorem dX8_takeSign_27 : decode cX8_takeSign 27 = .ok (.iload_n 1, 1) := by decide +kernel
theorem dX8_takeSign_28 : decode cX8_takeSign 28 = .ok (.if_icmp .eq 5, 3) := by decide +kernel
theorem dX8_takeSign_31 : decode cX8_takeSign 31 = .ok (.iconst 0, 1) := by decide +kernel
theorem dX8_takeSign_32 : decode cX8_takeSign 32 = .ok (.ireturn, 1) := by decide +kernel
theorem dX8_takeSign_33 : decode cX8_takeSign 33 = .ok (.aload_n 0, 1) := by decide +kernel
theorem dX8_takeSign_34 : decode cX8_takeSign 34 = .ok (.dup, 1) := by decide +kernel
theorem dX8_takeSign_35 : decode cX8_takeSign 35 = .ok (.getfield 34, 3) := by decide +kernel
theorem dX8_takeSign_38 : decode cX8_takeSign 38 = .ok (.iconst 1, 1) := by decide +kernel
theorem dX8_takeSign_39 : decode cX8_takeSign 39 = .ok (.iadd, 1) := by decide +kernel
theorem dX8_takeSign_40 : decode cX8_takeSign 40 = .ok (.putfield 34, 3) := by decide +kernel
theorem dX8_takeSign_43 : decode cX8_takeSign 43 = .ok (.iconst 1, 1) := by decide +kernel
theorem dX8_takeSign_44 : decode cX8_takeSign 44 = .ok (.ireturn, 1) := by decide +kernel
theorem dX8_takeWord_0 : decode cX8_takeWord 0 = .ok (.aload_n 0, 1) := by decide +kernel
theorem dX8_takeWord_1 : decode cX8_takeWord 1 = .ok (.getfield 18, 3) := by decide +kernel
theorem dX8_takeWord_4 : decode cX8_takeWord 4 = .ok (.aload_n 0, 1) := by decide +kernel
theorem dX8_takeWord_5 : decode cX8_takeWord 5 = .ok (.getfield 34, 3) := by decide +kernel
theorem dX8_takeWord_8 : decode cX8_takeWord 8 = .ok (.iaload, 1) := by decide +kernel
theorem dX8_takeWord_9 : decode cX8_takeWord 9 = .ok (.istore_n 2, 1) := by decide +kernel
theorem dX8_takeWord_10 : decode cX8_takeWord 10 = .ok (.aload_n 0, 1) := by decide +kernel
theorem dX8_takeWord_11 : decode cX8_takeWord 11 = .ok (.getfield 15, 3) := by decide +kernel
theorem dX8_takeWord_14 : decode cX8_takeWord 14 = .ok (.aload_n 0, 1) := by decide +kernel
theorem dX8_takeWord_15 : decode cX8_takeWord 15 = .ok (.getfield 34, 3) := by decide +kernel
theorem dX8_takeWord_18 : decode cX8_takeWord 18 = .ok (.iaload, 1) := by decide +kernel
theorem dX8_takeWord_19 : decode cX8_takeWord 19 = .ok (.iconst 1, 1) := by decide +kernel
theorem dX8_takeWord_20 : decode cX8_takeWord 20 = .ok (.if_icmp .ne 21, 3) := by decide +kernel
theorem dX8_takeWord_23 : decode cX8_takeWord 23 = .ok (.aload_n 0, 1) := by decide +kernel
theorem dX8_takeWord_24 : decode cX8_takeWord 24 = .ok (.getfield 21, 3) := by decide +kernel
theorem dX8_takeWord_27 : decode cX8_takeWord 27 = .ok (.aload_n 0, 1) := by decide +kernel
theorem dX8_takeWord_28 : decode cX8_takeWord 28 = .ok (.getfield 34, 3) := by decide +kernel
theorem dX8_takeWord_31 : decode cX8_takeWord 31 = .ok (.iaload, 1) := by decide +kernel
theorem dX8_takeWord_32 : decode cX8_takeWord 32 = .ok (.iload_n 2, 1) := by decide +kernel
theorem dX8_takeWord_33 : decode cX8_takeWord 33 = .ok (.isub, 1) := by decide +kernel
theorem dX8_takeWord_34 : decode cX8_takeWord 34 = .ok (.aload_n 1, 1) := by decide +kernel
theorem dX8_takeWord_35 : decode cX8_takeWord 35 = .ok (.invokevirtual 58, 3) := by decide +kernel
theorem dX8_takeWord_38 : decode cX8_takeWord 38 = .ok (.if_icmp .eq 5, 3) := by decide +kernel
theorem dX8_takeWord_41 : decode cX8_takeWord 41 = .ok (.iconst 0, 1) := by decide +kernel
theorem dX8_takeWord_42 : decode cX8_takeWord 42 = .ok (.ireturn, 1) := by decide +kernel
theorem dX8_takeWord_43 : decode cX8_takeWord 43 = .ok (.iconst 0, 1) := by decide +kernel
theorem dX8_takeWord_44 : decode cX8_takeWord 44 = .ok (.istore_n 3, 1) := by decide +kernel
theorem dX8_takeWord_45 : decode cX8_takeWord 45 = .ok (.iload_n 3, 1) := by decide +kernel
theorem dX8_takeWord_46 : decode cX8_takeWord 46 = .ok (.aload_n 1, 1) := by decide +kernel
theorem dX8_takeWord_47 : decode cX8_takeWord 47 = .ok (.invokevirtual 58, 3) := by decide +kernel
theorem dX8_takeWord_50 : decode cX8_takeWord 50 = .ok (.if_icmp .ge 27, 3) := by decide +kernel
theorem dX8_takeWord_53 : decode cX8_takeWord 53 = .ok (.aload_n 0, 1) := by decide +kernel
theorem dX8_takeWord_54 : decode cX8_takeWord 54 = .ok (.getfield 9, 3) := by decide +kernel
theorem dX8_takeWord_57 : decode cX8_takeWord 57 = .ok (.iload_n 2, 1) := by decide +kernel
theorem dX8_takeWord_58 : decode cX8_takeWord 58 = .ok (.iload_n 3, 1) := by decide +kernel
theorem dX8_takeWord_59 : decode cX8_takeWord 59 = .ok (.iadd, 1) := by decide +kernel
theorem dX8_takeWord_60 : decode cX8_takeWord 60 = .ok (.iaload, 1) := by decide +kernel
theorem dX8_takeWord_61 : decode cX8_takeWord 61 = .ok (.aload_n 1, 1) := by decide +kernel
theorem dX8_takeWord_62 : decode cX8_takeWord 62 = .ok (.iload_n 3, 1) := by decide +kernel
theorem dX8_takeWord_63 : decode cX8_takeWord 63 = .ok (.invokevirtual 63, 3) := by decide +kernel
theorem dX8_takeWord_66 : decode cX8_takeWord 66 = .ok (.if_icmp .eq 5, 3) := by decide +kernel
theorem dX8_takeWord_69 : decode cX8_takeWord 69 = .ok (.iconst 0, 1) := by decide +kernel
theorem dX8_takeWord_70 : decode cX8_takeWord 70 = .ok (.ireturn, 1) := by decide +kernel
theorem dX8_takeWord_71 : decode cX8_takeWord 71 = .ok (.iinc 3 1, 3) := by decide +kernel
theorem dX8_takeWord_74 : decode cX8_takeWord 74 = .ok (.goto (-29), 3) := by decide +kernel
theorem dX8_takeWord_77 : decode cX8_takeWord 77 = .ok (.aload_n 0, 1) := by decide +kernel
theorem dX8_takeWord_78 : decode cX8_takeWord 78 = .ok (.dup, 1) := by decide +kernel
theorem dX8_takeWord_79 : decode cX8_takeWord 79 = .ok (.getfield 34, 3) := by decide +kernel
theorem dX8_takeWord_82 : decode cX8_takeWord 82 = .ok (.iconst 1, 1) := by decide +kernel
theorem dX8_takeWord_83 : decode cX8_takeWord 83 = .ok (.iadd, 1) := by decide +kernel
theorem dX8_takeWord_84 : decode cX8_takeWord 84 = .ok (.putfield 34, 3) := by decide +kernel
theorem dX8_takeWord_87 : decode cX8_takeWord 87 = .ok (.iconst 1, 1) := by decide +kernel
theorem dX8_takeWord_88 : decode cX8_takeWord 88 = .ok (.ireturn, 1) := by decide +kernel
theorem dX8_takeNumber_0 : decode cX8_takeNumber 0 = .ok (.aload_n 0, 1) := by decide +kernel
theorem dX8_takeNumber_1 : decode cX8_takeNumber 1 = .ok (.getfield 15, 3) := by decide +kernel
theorem dX8_takeNumber_4 : decode cX8_takeNumber 4 = .ok (.aload_n 0, 1) := by decide +kernel
theorem dX8_takeNumber_5 : decode cX8_takeNumber 5 = .ok (.getfield 34, 3) := by decide +kernel
theorem dX8_takeNumber_8 : decode cX8_takeNumber 8 = .ok (.iaload, 1) := by decide +kernel
theorem dX8_takeNumber_9 : decode cX8_takeNumber 9 = .ok (.iconst 2, 1) := by decide +kernel
theorem dX8_takeNumber_10 : decode cX8_takeNumber 10 = .ok (.if_icmp .ne 29, 3) := by decide +kernel
theorem dX8_takeNumber_13 : decode cX8_takeNumber 13 = .ok (.aload_n 0, 1) := by decide +kernel
theorem dX8_takeNumber_14 : decode cX8_takeNumber 14 = .ok (.getfield 24, 3) := by decide +kernel
theorem dX8_takeNumber_17 : decode cX8_takeNumber 17 = .ok (.aload_n 0, 1) := by decide +kernel
theorem dX8_takeNumber_18 : decode cX8_takeNumber 18 = .ok (.getfield 34, 3) := by decide +kernel
theorem dX8_takeNumber_21 : decode cX8_takeNumber 21 = .ok (.iaload, 1) := by decide +kernel
theorem dX8_takeNumber_22 : decode cX8_takeNumber 22 = .ok (.iload_n 1, 1) := by decide +kernel
theorem dX8_takeNumber_23 : decode cX8_takeNumber 23 = .ok (.if_icmp .lt 16, 3) := by decide +kernel
theorem dX8_takeNumber_26 : decode cX8_takeNumber 26 = .ok (.aload_n 0, 1) := by decide +kernel
theorem dX8_takeNumber_27 : decode cX8_takeNumber 27 = .ok (.getfield 24, 3) := by decide +kernel
theorem dX8_takeNumber_30 : decode cX8_takeNumber 30 = .ok (.aload_n 0, 1) := by decide +kernel
theorem dX8_takeNumber_31 : decode cX8_takeNumber 31 = .ok (.getfield 34, 3) := by decide +kernel
theorem dX8_takeNumber_34 : decode cX8_takeNumber 34 = .ok (.iaload, 1) := by decide +kernel
theorem dX8_takeNumber_35 : decode cX8_takeNumber 35 = .ok (.iload_n 2, 1) := by decide +kernel
theorem dX8_takeNumber_36 : decode cX8_takeNumber 36 = .ok (.if_icmp .le 5, 3) := by decide +kernel
theorem dX8_takeNumber_39 : decode cX8_takeNumber 39 = .ok (.iconst (-1), 1) := by decide +kernel
theorem dX8_takeNumber_40 : decode cX8_takeNumber 40 = .ok (.ireturn, 1) := by decide +kernel
theorem dX8_takeNumber_41 : decode cX8_takeNumber 41 = .ok (.aload_n 0, 1) := by decide +kernel
theorem dX8_takeNumber_42 : decode cX8_takeNumber 42 = .ok (.dup, 1) := by decide +kernel
theorem dX8_takeNumber_43 : decode cX8_takeNumber 43 = .ok (.getfield 34, 3) := by decide +kernel
theorem dX8_takeNumber_46 : decode cX8_takeNumber 46 = .ok (.iconst 1, 1) := by decide +kernel
theorem dX8_takeNumber_47 : decode cX8_takeNumber 47 = .ok (.iadd, 1) := by decide +kernel
theorem dX8_takeNumber_48 : decode cX8_takeNumber 48 = .ok (.putfield 34, 3) := by decide +kernel
theorem dX8_takeNumber_51 : decode cX8_takeNumber 51 = .ok (.aload_n 0, 1) := by decide +kernel
theorem dX8_takeNumber_52 : decode cX8_takeNumber 52 = .ok (.getfield 24, 3) := by decide +kernel
theorem dX8_takeNumber_55 : decode cX8_takeNumber 55 = .ok (.aload_n 0, 1) := by decide +kernel
theorem dX8_takeNumber_56 : decode cX8_takeNumber 56 = .ok (.getfield 34, 3) := by decide +kernel
theorem dX8_takeNumber_59 : decode cX8_takeNumber 59 = .ok (.iconst 1, 1) := by decide +kernel
theorem dX8_takeNumber_60 : decode cX8_takeNumber 60 = .ok (.isub, 1) := by decide +kernel
theorem dX8_takeNumber_61 : decode cX8_takeNumber 61 = .ok (.iaload, 1) := by decide +kernel
theorem dX8_takeNumber_62 : decode cX8_takeNumber 62 = .ok (.ireturn, 1) := by decide +kernel
